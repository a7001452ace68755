/-! ===== turn: the reference plays on until nothing changes; answers ===== -/
theorem tE_w {m : jMu} (hm : mOk m) {s t : Nat} : tE m s t = true ↔ ∃ w, w < mW m ∧ mLd m s w = some t := by
  unfold tE
  rw [mEd_w hm, jex_iff]
  constructor
  · rintro ⟨w, hw, h⟩
    simp only [Bool.and_eq_true] at h
    exact ⟨w, hw, of_decide_eq_true h.2⟩
  · rintro ⟨w, hw, h⟩
    exact ⟨w, hw, by simp [h]⟩
theorem pAl_f {m : jMu} (hm : mOk m) {V : Nat → Nat} {s : Nat} (h : jex (mW m) (pAl m V s) = false) : ∀ t, t < mS m → tE m s t = true → V t = 1 := by
  intro t _ he
  obtain ⟨w, hw, hl⟩ := (tE_w hm).mp he
  have := jex_f.mp h w hw
  unfold pAl at this
  rw [hl] at this
  have := of_decide_eq_false this
  omega
theorem pSo_t {m : jMu} (hm : mOk m) {V : Nat → Nat} {s : Nat} (hs : s < mS m) (h : jex (mW m) (pSo m V s) = true) : ∃ t, t < mS m ∧ tE m s t = true ∧ V t = 2 := by
  obtain ⟨w, hw, hp⟩ := jex_iff.mp h
  unfold pSo at hp
  cases hl : mLd m s w with
  | none => rw [hl] at hp; cases hp
  | some t =>
    rw [hl] at hp
    exact ⟨t, mLd_lt hm hs hw hl, (tE_w hm).mpr ⟨w, hw, hl⟩, of_decide_eq_true hp⟩
def tZ (V : Nat → Nat) (s : Nat) : Bool := decide (V s = 0)
/-- nothing can be marked any more -/
def tQ (m : jMu) (V : Nat → Nat) (s : Nat) : Prop := V s = 0 → jex (mW m) (pAl m V s) = true ∧ jex (mW m) (pSo m V s) = false
theorem tS_up {m : jMu} (hm : mOk m) {V : Nat → Nat} {s : Nat} (hs : s < mS m) (hS : tS m V) (h : jex (mW m) (pAl m V s) = false ∨ jex (mW m) (pSo m V s) = true) : tS m fun x => if x = s then (if jex (mW m) (pSo m V s) = true then 1 else 2) else V x := by
  intro x hx
  by_cases e : x = s
  · subst e
    dsimp only
    rw [if_pos rfl]
    cases q : jex (mW m) (pSo m V x) with
    | true =>
      rw [if_pos rfl]
      refine ⟨fun _ => ?_, fun h => by omega⟩
      obtain ⟨t, h1, h2, h3⟩ := pSo_t hm hs q
      exact tW_any hs (tW_iff.mpr ⟨t, h1, h2, (hS t h1).2 h3⟩)
    | false =>
      rw [if_neg (by simp)]
      refine ⟨fun h => by omega, fun _ => tL_iff.mpr fun t ht he => ?_⟩
      rcases h with h | h
      · exact (hS t ht).1 (pAl_f hm h t ht he)
      · rw [q] at h; cases h
  · dsimp only
    rw [if_neg e]; exact hS x hx
theorem jm_pl33 {I : iq_I} {m : jMu} {V : Nat → Nat} (hm : mOk m) (hN : jRN I m) (hV : jV106 I m V) (hS : tS m V) :
    ∃ w, zM_plays_l33 ir_F (jn 0, jn 0, I) = some w ∧ jag I w.2 ∧ w.2 76 0 = I 76 0 ∧ ∃ V', jV106 w.2 m V' ∧ tS m V' ∧ ((w.1 = 0 ∧ ∀ s, s < mS m → tQ m V' s) ∨ (w.1 = 1 ∧ jcn (mS m) (tZ V') < jcn (mS m) (tZ V))) := by
  have h10 := hm.1
  refine js_inv (fun i v => v.2.1 = jn i ∧ jag I v.2.2 ∧ v.2.2 76 0 = I 76 0 ∧ ∃ V', jV106 v.2.2 m V' ∧ tS m V' ∧ ((v.1 = 0 ∧ V' = V ∧ ∀ s, s < i → tQ m V' s) ∨ (v.1 = 1 ∧ (∀ s, s < mS m → V' s = 0 → V s = 0) ∧ jcn (mS m) (tZ V') < jcn (mS m) (tZ V)))) (mS m) _ ?_ ?_ (mS m) 0 (jn 0, jn 0, I) ir_F (by omega) ⟨rfl, jag_rf I, rfl, V, hV, hS, Or.inl ⟨rfl, rfl, fun s h => by omega⟩⟩ (by unfold ir_F; omega)
  · rintro s ⟨x, x', I1⟩ hs ⟨hv, ha, h0, V', hV', hS', hc⟩
    simp only at hv ha h0 hV' hc
    subst hv
    have hN1 := jRN_ag hN ha
    have cell := (hV' s hs).2
    have b := (hV' s hs).1
    have kk := jm_pl61 (x1 := x) hm hN1 hs hV'
    simp only [jn0, jn1] at kk
    have is : iq_in (jn s) 10 := by rw [jn_in (by omega)]; omega
    have cl := jn_clamp (show s < 2147483648 by omega)
    have cs : ¬ jn (mS m) ≤ jn s := by rw [jn_le (by omega) (by omega)]; omega
    by_cases z : V' s = 0
    · rw [z] at cell
      by_cases hq : jex (mW m) (pAl m V' s) = true ∧ jex (mW m) (pSo m V' s) = false
      · refine ⟨(x, jn (s + 1), I1), ?_, rfl, ha, h0, V', hV', hS', ?_⟩
        · dsimp only
          unfold zM_plays_l33_b
          rw [jRN_S hN1, if_neg cs, if_pos is, cl, cell, if_pos (show jn 0 = 0 from rfl), kk, Option.bind_some]
          dsimp only
          rw [hq.1, hq.2, if_neg (by decide), if_neg (by decide), show (1 : Int32) = jn 1 from rfl, jn_add]
        · rcases hc with ⟨c1, c2, c3⟩ | c
          · refine Or.inl ⟨c1, c2, fun s' h => ?_⟩
            by_cases e : s' = s
            · subst e; exact fun _ => hq
            · exact c3 s' (by omega)
          · exact Or.inr c
      · have hq2 : jex (mW m) (pAl m V' s) = false ∨ jex (mW m) (pSo m V' s) = true := by
          cases q1 : jex (mW m) (pAl m V' s) with
          | false => exact Or.inl rfl
          | true =>
            cases q2 : jex (mW m) (pSo m V' s) with
            | true => exact Or.inr rfl
            | false => exact absurd ⟨q1, q2⟩ hq
        refine ⟨((1 : Int32), jn (s + 1), iq_upI I1 106 s (jn (if jex (mW m) (pSo m V' s) = true then 1 else 2))), ?_, rfl, jag_up ha rfl, ?_, (fun x => if x = s then (if jex (mW m) (pSo m V' s) = true then 1 else 2) else V' x), fun y hy => ?_, tS_up hm hs hS' hq2, Or.inr ⟨rfl, fun y hy hz => ?_, ?_⟩⟩
        · dsimp only
          unfold zM_plays_l33_b
          rw [jRN_S hN1, if_neg cs, if_pos is, cl, cell, if_pos (show jn 0 = 0 from rfl), kk, Option.bind_some]
          dsimp only
          have f : zM_plays_156 (jn s) (jB (jex (mW m) (pSo m V' s))) I1 = some (.inl ((1 : Int32), jn (s + 1), iq_upI I1 106 s (jn (if jex (mW m) (pSo m V' s) = true then 1 else 2)))) := by
            unfold zM_plays_156 zM_plays_171
            cases jex (mW m) (pSo m V' s) with
            | true => rw [if_neg (by decide), if_pos is, cl, ir_let, show (1 : Int32) = jn 1 from rfl, jn_add]; rfl
            | false => rw [if_pos (by decide), if_pos is, cl, ir_let, show (1 : Int32) = jn 1 from rfl, jn_add]; rfl
          rcases hq2 with q | q
          · rw [q, if_pos (by decide)]; exact f
          · by_cases q1 : jex (mW m) (pAl m V' s) = true
            · rw [q1, if_neg (by decide), if_pos (by rw [q]; decide)]; exact f
            · rw [if_pos (by rw [Bool.eq_false_iff.mpr q1]; decide)]; exact f
        · dsimp only; rw [up_nk (by decide)]; exact h0
        · dsimp only
          by_cases e : y = s
          · subst e; rw [if_pos rfl, up_eq]; exact ⟨by split <;> omega, rfl⟩
          · rw [if_neg e, up_ni e]; exact hV' y hy
        · dsimp only at hz
          by_cases e : y = s
          · rw [if_pos e] at hz; split at hz <;> omega
          · rw [if_neg e] at hz
            rcases hc with ⟨_, c2, _⟩ | ⟨_, c2, _⟩
            · rw [← c2]; exact hz
            · exact c2 y hy hz
        · have l1 : jcn (mS m) (tZ fun x => if x = s then (if jex (mW m) (pSo m V' s) = true then 1 else 2) else V' x) < jcn (mS m) (tZ V') := jcn_lt (fun j hj h => by
            have h := of_decide_eq_true h
            dsimp only at h
            by_cases e : j = s
            · rw [if_pos e] at h; split at h <;> omega
            · rw [if_neg e] at h; exact decide_eq_true h) ⟨s, hs, decide_eq_true z, decide_eq_false (by dsimp only; rw [if_pos (Eq.refl s)]; split <;> omega)⟩
          rcases hc with ⟨_, c2, _⟩ | ⟨_, _, c3⟩
          · rw [c2] at l1 ⊢; exact l1
          · omega
    · refine ⟨(x, jn (s + 1), I1), ?_, rfl, ha, h0, V', hV', hS', ?_⟩
      · dsimp only
        unfold zM_plays_l33_b
        rw [jRN_S hN1, if_neg cs, if_pos is, cl, cell, if_neg (by rw [← jn0, jn_inj (by omega) (by omega)]; exact z), show (1 : Int32) = jn 1 from rfl, jn_add]
      · rcases hc with ⟨c1, c2, c3⟩ | c
        · refine Or.inl ⟨c1, c2, fun s' h => ?_⟩
          by_cases e : s' = s
          · subst e; exact fun h => absurd h z
          · exact c3 s' (by omega)
        · exact Or.inr c
  · rintro ⟨x, x', I1⟩ ⟨hv, ha, h0, V', hV', hS', hc⟩
    simp only at hv ha h0 hV' hc
    subst hv
    have hN1 := jRN_ag hN ha
    refine ⟨(x, I1), ?_, ha, h0, V', hV', hS', ?_⟩
    · dsimp only
      unfold zM_plays_l33_b
      rw [jRN_S hN1, if_pos (by rw [jn_le (by omega) (by omega)]; omega)]
    · rcases hc with ⟨c1, _, c3⟩ | ⟨c1, _, c3⟩
      · exact Or.inl ⟨c1, c3⟩
      · exact Or.inr ⟨c1, c3⟩
theorem tV_end {m : jMu} (hm : mOk m) {V : Nat → Nat} (hb : ∀ s, s < mS m → V s ≤ 2) (hS : tS m V) (hQ : ∀ s, s < mS m → tQ m V s) : ∀ s, s < mS m → V s = tV m s := by
  have key : ∀ k, (∀ s, s < mS m → tL m k s = true → V s = 2) ∧ (∀ s, s < mS m → tW m k s = true → V s = 1) := by
    intro k
    induction k with
    | zero =>
      refine ⟨fun s hs h => ?_, fun s _ h => by cases h⟩
      have := hb s hs
      have no : ∀ t, t < mS m → tE m s t = true → False := fun t ht he => by
        have := tL_iff.mp h t ht he; cases this
      by_cases z : V s = 0
      · obtain ⟨q1, _⟩ := hQ s hs z
        obtain ⟨w, hw, hp⟩ := jex_iff.mp q1
        unfold pAl at hp
        cases hl : mLd m s w with
        | none => rw [hl] at hp; cases hp
        | some t => exact (no t (mLd_lt hm hs hw hl) ((tE_w hm).mpr ⟨w, hw, hl⟩)).elim
      · by_cases o : V s = 1
        · exact (tWL (Nat.le_refl _) hs ((hS s hs).1 o) h).elim
        · omega
    | succ k ih =>
      have hW : ∀ s, s < mS m → tW m (k + 1) s = true → V s = 1 := fun s hs h => by
        obtain ⟨t, ht, he, hl⟩ := tW_iff.mp h
        have h2 := ih.1 t ht hl
        have := hb s hs
        by_cases z : V s = 0
        · obtain ⟨_, q2⟩ := hQ s hs z
          obtain ⟨w, hw, hl2⟩ := (tE_w hm).mp he
          have := jex_f.mp q2 w hw
          unfold pSo at this
          rw [hl2] at this
          exact absurd h2 (of_decide_eq_false this)
        · by_cases o : V s = 2
          · exact (tWL (Nat.le_refl _) hs h ((hS s hs).2 o)).elim
          · omega
      refine ⟨fun s hs h => ?_, hW⟩
      have := hb s hs
      by_cases z : V s = 0
      · obtain ⟨q1, _⟩ := hQ s hs z
        obtain ⟨w, hw, hp⟩ := jex_iff.mp q1
        unfold pAl at hp
        cases hl : mLd m s w with
        | none => rw [hl] at hp; cases hp
        | some t =>
          rw [hl] at hp
          have ht := mLd_lt hm hs hw hl
          exact absurd (hW t ht (tL_iff.mp h t ht ((tE_w hm).mpr ⟨w, hw, hl⟩))) (of_decide_eq_true hp)
      · by_cases o : V s = 1
        · exact (tWL (Nat.le_refl _) hs ((hS s hs).1 o) h).elim
        · omega
  intro s hs
  unfold tV
  have := hb s hs
  by_cases w : tW m (mS m) s = true
  · rw [if_pos w]; exact (key (mS m)).2 s hs w
  · rw [if_neg w]
    by_cases l : tL m (mS m) s = true
    · rw [if_pos l]; exact (key (mS m)).1 s hs l
    · rw [if_neg l]
      by_cases o : V s = 1
      · exact absurd ((hS s hs).1 o) w
      · by_cases o2 : V s = 2
        · exact absurd ((hS s hs).2 o2) l
        · omega
theorem tS_0 (m : jMu) : tS m fun _ => 0 := fun s _ => ⟨fun h => absurd (show 0 = 1 from h) (by decide), fun h => absurd (show 0 = 2 from h) (by decide)⟩
theorem jm_plays {I : iq_I} {m : jMu} (hm : mOk m) (hN : jRN I m) : ∃ I', zM_plays I = some I' ∧ jag I I' ∧ I' 76 0 = I 76 0 ∧ ∀ s, s < mS m → I' 106 s = jn (tV m s) := by
  have h10 := hm.1
  obtain ⟨I1, e1, a1, t1, h1⟩ : ∃ I', zM_plays_l2 ir_F (jn 0, I) = some I' ∧ jag I I' ∧ I' 76 0 = I 76 0 ∧ jV106 I' m fun _ => 0 := by
    refine js_inv (fun i v => v.1 = jn i ∧ jag I v.2 ∧ v.2 76 0 = I 76 0 ∧ ∀ s, s < i → v.2 106 s = jn 0) (mS m) _ ?_ ?_ (mS m) 0 (jn 0, I) ir_F (by omega) ⟨rfl, jag_rf I, rfl, fun s h => by omega⟩ (by unfold ir_F; omega)
    · rintro i ⟨x, I1⟩ hi ⟨hv, ha, h0, h2⟩
      simp only at hv ha h0 h2
      subst hv
      have hN1 := jRN_ag hN ha
      refine ⟨(jn (i + 1), iq_upI I1 106 i (jn 0)), ?_, rfl, jag_up ha rfl, ?_, fun s h => ?_⟩
      · simp (disch := omega) only [zM_plays_l2_b, jRN_S hN1, ir_let, jn_lt, jn_le, jn_in, jn_inj, jn_ne_m, jm_ne_n, jm_eq_m, jm_lt, jm_le, jn_lt_m, jn_le_m, jn_add, jn_mul, jn_clamp, jo_some, jn_min, jn_max, ↓jlm, jl0, jl1, jl2, jl3, jl4, jl5, jl6, jl7, jl8, jl9, jl10, jl11, jl12, jl13, jl14, jl15, jl16, jl20, jl24, jl32, jl39, jl40, jl41, jl60, jl61, jl80, jl96, jl97, jl99, jl100, jl122, jl126, jl199, jl200, jl205, jl206, jl255, jl256, jl410, jl700, jl950, jl1000, jl1000000, jl4000, jl8240, jl32767, if_pos, if_neg, ↓reduceIte, Option.bind_some, not_true_eq_false, not_false_eq_true, Nat.not_lt, Nat.not_le]
      · dsimp only; rw [up_nk (by decide)]; exact h0
      · dsimp only
        by_cases q : s = i
        · subst q; rw [up_eq]
        · rw [up_ni q]; exact h2 s (by omega)
    · rintro ⟨x, I1⟩ ⟨hv, ha, h0, h2⟩
      simp only at hv ha h0 h2
      subst hv
      have hN1 := jRN_ag hN ha
      refine ⟨I1, ?_, ha, h0, fun s hs => ⟨Nat.zero_le _, h2 s hs⟩⟩
      simp (disch := omega) only [zM_plays_l2_b, jRN_S hN1, ir_let, jn_lt, jn_le, jn_in, jn_inj, jn_ne_m, jm_ne_n, jm_eq_m, jm_lt, jm_le, jn_lt_m, jn_le_m, jn_add, jn_mul, jn_clamp, jo_some, jn_min, jn_max, ↓jlm, jl0, jl1, jl2, jl3, jl4, jl5, jl6, jl7, jl8, jl9, jl10, jl11, jl12, jl13, jl14, jl15, jl16, jl20, jl24, jl32, jl39, jl40, jl41, jl60, jl61, jl80, jl96, jl97, jl99, jl100, jl122, jl126, jl199, jl200, jl205, jl206, jl255, jl256, jl410, jl700, jl950, jl1000, jl1000000, jl4000, jl8240, jl32767, if_pos, if_neg, ↓reduceIte, Option.bind_some, not_true_eq_false, not_false_eq_true, Nat.not_lt, Nat.not_le]
  have key := js_lp (body := fun v => zM_plays_l25_b v.1 v.2) (fun v => jag I1 v.2 ∧ v.2 76 0 = I1 76 0 ∧ ∃ V, jV106 v.2 m V ∧ tS m V ∧ ((v.1 = 0 ∧ ∀ s, s < mS m → tQ m V s) ∨ v.1 = 1) ∧ (v.1 = 1 → jcn (mS m) (tZ V) ≤ jcn (mS m) (tZ V)))
    (fun v => if v.1 = 0 then 0 else 1 + jcn (mS m) (fun s => decide (v.2 106 s = 0))) (fun I' => jag I1 I' ∧ I' 76 0 = I1 76 0 ∧ ∃ V, jV106 I' m V ∧ tS m V ∧ ∀ s, s < mS m → tQ m V s) (by
      rintro ⟨x, I2⟩ ⟨ha, h0, V, hV, hS, hc, -⟩
      simp only at ha h0 hV hc
      rcases hc with ⟨rfl, hq⟩ | rfl
      · refine Or.inr ⟨I2, ?_, ha, h0, V, hV, hS, hq⟩
        dsimp only
        unfold zM_plays_l25_b
        rw [if_pos (Eq.refl (0 : Int32))]
      · have hN2 := jRN_ag hN (jag_tr a1 ha)
        obtain ⟨⟨w1, I3⟩, e3, a3, t3, V', hV', hS', hc'⟩ := jm_pl33 hm hN2 hV hS
        simp only at a3 t3 hV' hc'
        simp only [jn0] at e3
        have zz : ∀ (I : iq_I) (V : Nat → Nat), jV106 I m V → jcn (mS m) (fun s => decide (I 106 s = 0)) = jcn (mS m) (tZ V) := fun I V h => by
          have : ∀ n, n ≤ mS m → jcn n (fun s => decide (I 106 s = 0)) = jcn n (tZ V) := by
            intro n
            induction n with
            | zero => intro _; rfl
            | succ n ih =>
              intro hn
              have hv := h n (by omega)
              have e : (decide (I 106 n = 0)) = tZ V n := by
                unfold tZ
                rw [hv.2, ← jn0]
                have : (jn (V n) = jn 0) = (V n = 0) := jn_inj (by omega) (by omega)
                simp only [this]
              unfold jcn
              rw [ih (by omega)]
              simp only [e]
          exact this _ (Nat.le_refl _)
        refine Or.inl ⟨(w1, I3), ?_, ⟨jag_tr ha a3, t3.trans h0, V', hV', hS', ?_, fun _ => Nat.le_refl _⟩, ?_⟩
        · dsimp only
          unfold zM_plays_l25_b
          rw [if_neg (by decide), e3, Option.bind_some]
        · rcases hc' with h | h
          · exact Or.inl h
          · exact Or.inr h.1
        · dsimp only
          rw [if_neg (show ¬ (1 : Int32) = 0 by decide), zz I2 V hV]
          rcases hc' with ⟨h, _⟩ | ⟨h, hl⟩
          · rw [if_pos h]; omega
          · rw [h, if_neg (by decide), zz I3 V' hV']; omega) ir_F ((1 : Int32), I1) ⟨jag_rf I1, rfl, _, h1, tS_0 m, Or.inr rfl, fun _ => Nat.le_refl _⟩ (by
        dsimp only
        rw [if_neg (by decide)]
        have := jcn_le (n := mS m) (P := fun s => decide (I1 106 s = 0))
        unfold ir_F; omega)
  obtain ⟨I2, e2, a2, t2, V, hV, hS, hq⟩ := key
  refine ⟨I2, ?_, jag_tr a1 a2, t2.trans t1, fun s hs => ?_⟩
  · simp only [jn0] at e1
    have e2' : zM_plays_l25 ir_F ((1 : Int32), I1) = some I2 := e2
    simp only [zM_plays, e1, e2', ir_let, iq_sm, ir_sm, jzE, j10, Option.bind_some, ↓reduceIte, not_true_eq_false, not_false_eq_true]
  · rw [(hV s hs).2, tV_end hm (fun s hs => (hV s hs).1) hS hq s hs]
def pTw (m : jMu) (s w : Nat) : Bool := match mLd m s w with
  | none => false
  | some t => tL m (mS m) t
theorem tV_2 {m : jMu} {t : Nat} (ht : t < mS m) : (tV m t = 2) = (tL m (mS m) t = true) := by
  apply propext
  unfold tV
  by_cases w : tW m (mS m) t = true
  · rw [if_pos w]
    exact ⟨fun h => by omega, fun h => (tWL (Nat.le_refl _) ht w h).elim⟩
  · rw [if_neg w]
    by_cases l : tL m (mS m) t = true
    · rw [if_pos l]; exact ⟨fun _ => l, fun _ => rfl⟩
    · rw [if_neg l]; exact ⟨fun h => by omega, fun h => absurd h l⟩
theorem jc_winningWord {I : iq_I} {m : jMu} (hm : mOk m) (hU : jRU I m) (h6 : I 63 6 = jb (mS m) (tL m (mS m))) {s : Nat} (hs : s < mS m) :
    zP_winningWord_l6 (jn s) I ir_F (jn 0) = some (match gFst (pTw m s) (mW m) 0 with
      | some e => .inr (jn e, I)
      | none => .inl ()) := by
  have h10 := hm.1
  have h14 := hm.2.1
  have body : ∀ w, w < mW m → zP_winningWord_l6_b (jn s) I (jn w) = some (if pTw m s w = true then .inr (.inr (jn w, I)) else .inl (jn (w + 1))) := fun w hw => by
    have lt := jc_leadsTo hm hU hs hw
    cases hr : mLd m s w with
    | none =>
      rw [hr] at lt
      have e : pTw m s w = false := by simp [pTw, hr]
      rw [if_neg (by simp [e])]
      simp (disch := omega) only [zP_winningWord_l6_b, jRU_W hU, lt, ir_let, jn_lt, jn_le, jn_in, jn_inj, jn_ne_m, jm_ne_n, jm_eq_m, jm_lt, jm_le, jn_lt_m, jn_le_m, jn_add, jn_mul, jn_clamp, jo_some, jn_min, jn_max, ↓jlm, jl0, jl1, jl2, jl3, jl4, jl5, jl6, jl7, jl8, jl9, jl10, jl11, jl12, jl13, jl14, jl15, jl16, jl20, jl24, jl32, jl39, jl40, jl41, jl60, jl61, jl80, jl96, jl97, jl99, jl100, jl122, jl126, jl199, jl200, jl205, jl206, jl255, jl256, jl410, jl700, jl950, jl1000, jl1000000, jl4000, jl8240, jl32767, if_pos, if_neg, ↓reduceIte, Option.bind_some, not_true_eq_false, not_false_eq_true, Nat.not_lt, Nat.not_le]
    | some t =>
      have ht := mLd_lt hm hs hw hr
      rw [hr] at lt
      have e : pTw m s w = tL m (mS m) t := by simp [pTw, hr]
      rw [e]
      cases q : tL m (mS m) t with
      | true =>
        rw [if_pos (Eq.refl true)]
        simp (disch := omega) only [zP_winningWord_l6_b, jRU_W hU, lt, h6, jq_bit, jq_jb, q, ir_let, jn_lt, jn_le, jn_in, jn_inj, jn_ne_m, jm_ne_n, jm_eq_m, jm_lt, jm_le, jn_lt_m, jn_le_m, jn_add, jn_mul, jn_clamp, jo_some, jn_min, jn_max, ↓jlm, jl0, jl1, jl2, jl3, jl4, jl5, jl6, jl7, jl8, jl9, jl10, jl11, jl12, jl13, jl14, jl15, jl16, jl20, jl24, jl32, jl39, jl40, jl41, jl60, jl61, jl80, jl96, jl97, jl99, jl100, jl122, jl126, jl199, jl200, jl205, jl206, jl255, jl256, jl410, jl700, jl950, jl1000, jl1000000, jl4000, jl8240, jl32767, if_pos, if_neg, ↓reduceIte, Option.bind_some, not_true_eq_false, not_false_eq_true, Nat.not_lt, Nat.not_le, Bool.true_eq_false]
      | false =>
        rw [if_neg (by simp)]
        simp (disch := omega) only [zP_winningWord_l6_b, jRU_W hU, lt, h6, jq_bit, jq_jb, q, ir_let, jn_lt, jn_le, jn_in, jn_inj, jn_ne_m, jm_ne_n, jm_eq_m, jm_lt, jm_le, jn_lt_m, jn_le_m, jn_add, jn_mul, jn_clamp, jo_some, jn_min, jn_max, ↓jlm, jl0, jl1, jl2, jl3, jl4, jl5, jl6, jl7, jl8, jl9, jl10, jl11, jl12, jl13, jl14, jl15, jl16, jl20, jl24, jl32, jl39, jl40, jl41, jl60, jl61, jl80, jl96, jl97, jl99, jl100, jl122, jl126, jl199, jl200, jl205, jl206, jl255, jl256, jl410, jl700, jl950, jl1000, jl1000000, jl4000, jl8240, jl32767, if_pos, if_neg, ↓reduceIte, Option.bind_some, not_true_eq_false, not_false_eq_true, Nat.not_lt, Nat.not_le]
  rcases gFst_sp (P := pTw m s) (c := mW m) (i := 0) with ⟨h1, h2⟩ | ⟨e, h1, _, h3, h4, h5⟩
  · rw [h1]
    refine js_seq (fun i => jn i) (mW m) _ (fun i hi => ?_) ?_ (mW m) 0 ir_F (by omega) (by unfold ir_F; omega)
    · have := body i hi
      rw [if_neg (by simp [h2 i (by omega) (by omega)])] at this
      exact this
    · simp (disch := omega) only [zP_winningWord_l6_b, jRU_W hU, ir_let, jn_lt, jn_le, jn_in, jn_inj, jn_ne_m, jm_ne_n, jm_eq_m, jm_lt, jm_le, jn_lt_m, jn_le_m, jn_add, jn_mul, jn_clamp, jo_some, jn_min, jn_max, ↓jlm, jl0, jl1, jl2, jl3, jl4, jl5, jl6, jl7, jl8, jl9, jl10, jl11, jl12, jl13, jl14, jl15, jl16, jl20, jl24, jl32, jl39, jl40, jl41, jl60, jl61, jl80, jl96, jl97, jl99, jl100, jl122, jl126, jl199, jl200, jl205, jl206, jl255, jl256, jl410, jl700, jl950, jl1000, jl1000000, jl4000, jl8240, jl32767, if_pos, if_neg, ↓reduceIte, Option.bind_some, not_true_eq_false, not_false_eq_true, Nat.not_lt, Nat.not_le]
  · rw [h1]
    refine js_seq (fun i => jn i) e _ (fun i hi => ?_) ?_ e 0 ir_F (by omega) (by unfold ir_F; omega)
    · have := body i (by omega)
      rw [if_neg (by simp [h5 i (by omega) hi])] at this
      exact this
    · have := body e (by omega)
      rw [if_pos h4] at this
      exact this
theorem jm_tn41 {I : iq_I} {m : jMu} (hm : mOk m) (hN : jRN I m) (hT : ∀ s, s < mS m → I 106 s = jn (tV m s)) {s : Nat} (hs : s < mS m) :
    zM_turn_l41 (jn s) I ir_F (jn 0) = some (match gFst (pTw m s) (mW m) 0 with
      | some e => .inr (jn e, I)
      | none => .inl ()) := by
  have h10 := hm.1
  have h14 := hm.2.1
  have body : ∀ w, w < mW m → zM_turn_l41_b (jn s) I (jn w) = some (if pTw m s w = true then .inr (.inr (jn w, I)) else .inl (jn (w + 1))) := fun w hw => by
    have lt := jm_leads hm hN hs hw
    have cw : ¬ jn (mW m) ≤ jn w := by rw [jn_le (by omega) (by omega)]; omega
    cases hr : mLd m s w with
    | none =>
      rw [hr] at lt
      have e : pTw m s w = false := by simp [pTw, hr]
      rw [if_neg (by simp [e])]
      unfold zM_turn_l41_b
      rw [jRN_W hN, if_neg cw, lt, Option.bind_some, if_pos (show jo none = -1 from rfl), show (1 : Int32) = jn 1 from rfl, jn_add]
    | some t =>
      have ht := mLd_lt hm hs hw hr
      rw [hr, jo_some] at lt
      have e : pTw m s w = tL m (mS m) t := by simp [pTw, hr]
      have b : tV m t ≤ 2 := by unfold tV; split <;> (try split) <;> omega
      have nm : ¬ jn t = (-1 : Int32) := jn_ne (by omega) (by decide)
      have it : iq_in (jn t) 10 := by rw [jn_in (by omega)]; omega
      have e2 := tV_2 ht
      rw [e]
      unfold zM_turn_l41_b
      rw [jRN_W hN, if_neg cw, lt, Option.bind_some, if_neg nm, Option.bind_some, if_pos it, jn_clamp (by omega), hT t ht]
      by_cases q : tV m t = 2
      · rw [if_pos (show tL m (mS m) t = true by rw [← e2]; exact q), q, if_neg (by decide)]
      · rw [if_neg (show ¬ tL m (mS m) t = true by rw [← e2]; exact q), if_pos (by rw [show (2 : Int32) = jn 2 from rfl, jn_inj (by omega) (by omega)]; exact q), show (1 : Int32) = jn 1 from rfl, jn_add]
  rcases gFst_sp (P := pTw m s) (c := mW m) (i := 0) with ⟨h1, h2⟩ | ⟨e, h1, _, h3, h4, h5⟩
  · rw [h1]
    refine js_seq (fun i => jn i) (mW m) _ (fun i hi => ?_) ?_ (mW m) 0 ir_F (by omega) (by unfold ir_F; omega)
    · have := body i hi
      rw [if_neg (by simp [h2 i (by omega) (by omega)])] at this
      exact this
    · simp (disch := omega) only [zM_turn_l41_b, jRN_W hN, ir_let, jn_lt, jn_le, jn_in, jn_inj, jn_ne_m, jm_ne_n, jm_eq_m, jm_lt, jm_le, jn_lt_m, jn_le_m, jn_add, jn_mul, jn_clamp, jo_some, jn_min, jn_max, ↓jlm, jl0, jl1, jl2, jl3, jl4, jl5, jl6, jl7, jl8, jl9, jl10, jl11, jl12, jl13, jl14, jl15, jl16, jl20, jl24, jl32, jl39, jl40, jl41, jl60, jl61, jl80, jl96, jl97, jl99, jl100, jl122, jl126, jl199, jl200, jl205, jl206, jl255, jl256, jl410, jl700, jl950, jl1000, jl1000000, jl4000, jl8240, jl32767, if_pos, if_neg, ↓reduceIte, Option.bind_some, not_true_eq_false, not_false_eq_true, Nat.not_lt, Nat.not_le]
  · rw [h1]
    refine js_seq (fun i => jn i) e _ (fun i hi => ?_) ?_ e 0 ir_F (by omega) (by unfold ir_F; omega)
    · have := body i (by omega)
      rw [if_neg (by simp [h5 i (by omega) hi])] at this
      exact this
    · have := body e (by omega)
      rw [if_pos h4] at this
      exact this
theorem jq_turn {I : iq_I} (hI : jInv I) (x z : Int32) (X : iq_X) : ∃ r I1 X1 b I2, zO_turn x z I X = some (r, I1, X1) ∧ zM_turn x z I1 = some (b, I2) ∧ jag I I1 ∧ jag I I2 ∧ jXo X X1 ∧ jAns r b (I2 76 0) := by
  obtain ⟨m, g, hm, hU, hN, hB, -, -⟩ := hI
  have h10 := hm.1
  by_cases hx : ∃ s, s < mS m ∧ x = jn s
  · obtain ⟨s, hs, rfl⟩ := hx
    by_cases hz : ∃ k, k < 2 ∧ z = jn k
    · obtain ⟨k, hk, rfl⟩ := hz
      obtain ⟨I1, e1, a1, h6, h7⟩ := jc_playOut hm hU
      have hU1 := jRU_ag hU a1
      have hN0 := jRN_ag hN a1
      have hN1 := jRN_ag hN0 (jz_ag I1)
      obtain ⟨I2, e2, a2, t2, hT⟩ := jm_plays hm hN1
      have t2 : I2 76 0 = 0 := t2
      have k1 := jm_isWhat1 (I := I1) (k := k) (n := 1) (by omega) (by omega)
      have c1 := jc_oneOfTwo1 (I := I) hk X
      rw [jn1] at k1
      rcases (show k = 0 ∨ k = 1 by omega) with rfl | rfl
      · simp only [jn0] at c1 k1 ⊢
        refine ⟨.inl (jn (tV m s)), I1, X, jn (tV m s), I2, ?_, ?_, a1, jag_tr a1 (jag_tr (jz_ag I1) a2), Or.inl rfl, Or.inl ⟨_, rfl, rfl, t2⟩⟩
        · have b7 : (((I1 63 7) >>> (jn s &&& 31)) &&& 1 = 0) = (tW m (mS m) s = false) := by rw [h7, jt_bit (by omega), jq_jb hs (by omega)]
          have b6 : (((I1 63 6) >>> (jn s &&& 31)) &&& 1 = 0) = (tL m (mS m) s = false) := by rw [h6, jt_bit (by omega), jq_jb hs (by omega)]
          simp only [zO_turn, zP_inTurn, jc_needState1 hm hU hs, c1, e1, ir_let, iq_sm, ir_sm, jzE, j10, Option.bind_some, ↓reduceIte, not_true_eq_false, not_false_eq_true, b7, b6]
          cases w : tW m (mS m) s with
          | true =>
            have : tV m s = 1 := by unfold tV; rw [if_pos w]
            rw [this]; rfl
          | false =>
            cases l : tL m (mS m) s with
            | true =>
              have : tV m s = 2 := by unfold tV; rw [if_neg (by simp [w]), if_pos l]
              rw [this]; rfl
            | false =>
              have : tV m s = 0 := by unfold tV; rw [if_neg (by simp [w]), if_neg (by simp [l])]
              rw [this]; rfl
        · have is : iq_in (jn s) 10 := by rw [jn_in (by omega)]; omega
          simp only [zM_turn, jm_isState1 hm hN0 hs, k1, e2, ir_let, iq_sm, ir_sm, jzE, j10, Option.bind_some, ↓reduceIte, not_true_eq_false, not_false_eq_true, if_pos is, jn_clamp (show s < 2147483648 by omega), hT s hs]
      · simp only [jn1] at c1 k1 ⊢
        have q1 := jc_winningWord hm hU1 h6 hs
        have q2 := jm_tn41 hm (jRN_ag hN1 a2) hT hs
        simp only [jn0] at q1 q2
        refine ⟨.inl (jo (gFst (pTw m s) (mW m) 0)), I1, X, jo (gFst (pTw m s) (mW m) 0), I2, ?_, ?_, a1, jag_tr a1 (jag_tr (jz_ag I1) a2), Or.inl rfl, Or.inl ⟨_, rfl, rfl, t2⟩⟩
        · simp only [zO_turn, zP_winningWord, jc_needState1 hm hU hs, c1, e1, q1, ir_let, iq_sm, ir_sm, jzE, j10, Option.bind_some, ↓reduceIte, not_true_eq_false, not_false_eq_true]
          cases gFst (pTw m s) (mW m) 0 <;> rfl
        · simp only [zM_turn, jm_isState1 hm hN0 hs, k1, e2, q2, ir_let, iq_sm, ir_sm, jzE, j10, Option.bind_some, ↓reduceIte, not_true_eq_false, not_false_eq_true]
          cases gFst (pTw m s) (mW m) 0 <;> rfl
    · have k1 := jm_isWhat0 (I := I) (x := z) (n := 1) (by omega) (fun ⟨k, h1, h2⟩ => hz ⟨k, by omega, h2⟩)
      rw [jn1] at k1
      refine jmkE ?_ ?_
      · simp only [zO_turn, jc_needState1 hm hU hs, jc_oneOfTwo0 hz, ir_let, iq_sm, ir_sm, jzE, j10, Option.bind_some, ↓reduceIte, not_true_eq_false, not_false_eq_true]
      · simp only [zM_turn, jm_isState1 hm hN hs, k1, ir_let, iq_sm, ir_sm, jzE, j10, Option.bind_some, ↓reduceIte, not_true_eq_false, not_false_eq_true]
  · refine jmkE ?_ ?_
    · simp only [zO_turn, jc_needState0 hm hU hx, ir_let, iq_sm, ir_sm, jzE, j10, Option.bind_some, ↓reduceIte, not_true_eq_false, not_false_eq_true]
    · simp only [zM_turn, jm_isState0 hm hN hx, ir_let, iq_sm, ir_sm, jzE, j10, Option.bind_some, ↓reduceIte, not_true_eq_false, not_false_eq_true]
