/-! ===== closed: the reference, the answers ===== -/
theorem jc_closed {I : iq_I} {m : jMu} {g : jGa} (hm : mOk m) (hU : jRU I m) (hg : gOk m g) (hG : jRG I 16 17 18 24 g) : ∃ I', zO_closed I = some (jn ((clA m g).getD 0), I') ∧ jag I I' := by
  have key : ∃ w, zP_closingKinds_l44 (jb (mS m) (clU m g (gY g))) ir_F (jn 0, I) = some w ∧ ∃ I', jag I I' ∧ w = match clA m g with
      | some c => .inr (jn c, I')
      | none => .inl I' := by
    have body : ∀ z I1, z ≤ 8 → jag I I1 → ∃ I2, jag I I2 ∧ zP_closingKinds_l44_b (jb (mS m) (clU m g (gY g))) (jn z) I1 = some (match gFst (pCl m g z) 256 0 with
        | some c => .inr (.inr (jn c, I2))
        | none => .inl (jn (z + 1), I2)) := fun z I1 hz ha => by
      obtain ⟨I2, e2, a2⟩ := jc_ck53 hm (jRU_ag hU ha) hg hz
      refine ⟨I2, jag_tr ha a2, ?_⟩
      simp only [jn0] at e2
      unfold zP_closingKinds_l44_b
      rw [if_neg (by rw [show (8 : Int32) = jn 8 from rfl, jn_lt (by omega) (by omega)]; omega), e2, Option.bind_some]
      cases gFst (pCl m g z) 256 0 with
      | none => simp only [ir_sm]; rw [show (1 : Int32) = jn 1 from rfl, jn_add]
      | some c => rfl
    rcases gFst_sp (P := fun z => (gFst (pCl m g z) 256 0).isSome) (c := 9) (i := 0) with ⟨h1, h2⟩ | ⟨e, h1, _, h3, h4, h5⟩
    · have eA : clA m g = none := by unfold clA; rw [h1]; rfl
      rw [eA]
      refine js_inv (fun i v => v.1 = jn i ∧ jag I v.2) 9 _ ?_ ?_ 9 0 (jn 0, I) ir_F (by omega) ⟨rfl, jag_rf I⟩ (by unfold ir_F; omega)
      · rintro z ⟨x, I1⟩ hz ⟨hv, ha⟩
        simp only at hv ha
        subst hv
        obtain ⟨I2, a2, e2⟩ := body z I1 (by omega) ha
        have := h2 z (by omega) (by omega)
        cases q : gFst (pCl m g z) 256 0 with
        | some c => rw [q] at this; cases this
        | none => rw [q] at e2; exact ⟨_, e2, rfl, a2⟩
      · rintro ⟨x, I1⟩ ⟨hv, ha⟩
        simp only at hv ha
        subst hv
        refine ⟨.inl I1, ?_, I1, ha, rfl⟩
        dsimp only
        unfold zP_closingKinds_l44_b
        rw [if_pos (by decide)]
    · obtain ⟨c, hc⟩ := Option.isSome_iff_exists.mp h4
      have eA : clA m g = some c := by unfold clA; rw [h1]; exact hc
      rw [eA]
      refine js_inv (fun i v => v.1 = jn i ∧ jag I v.2) e _ ?_ ?_ e 0 (jn 0, I) ir_F (by omega) ⟨rfl, jag_rf I⟩ (by unfold ir_F; omega)
      · rintro z ⟨x, I1⟩ hz ⟨hv, ha⟩
        simp only at hv ha
        subst hv
        obtain ⟨I2, a2, e2⟩ := body z I1 (by omega) ha
        have := h5 z (by omega) hz
        cases q : gFst (pCl m g z) 256 0 with
        | some c => rw [q] at this; cases this
        | none => rw [q] at e2; exact ⟨_, e2, rfl, a2⟩
      · rintro ⟨x, I1⟩ ⟨hv, ha⟩
        simp only at hv ha
        subst hv
        obtain ⟨I2, a2, e2⟩ := body e I1 (by omega) ha
        rw [hc] at e2
        exact ⟨_, e2, I2, a2, rfl⟩
  obtain ⟨w, k1, I', a', k2⟩ := key
  have k0 := jc_ck4 hm hU hg hG
  simp only [jn0] at k0 k1
  refine ⟨I', ?_, a'⟩
  cases hA : clA m g with
  | none =>
    rw [hA] at k2
    subst k2
    simp only [zO_closed, zP_closingKinds, k0, k1, ir_let, iq_sm, ir_sm, jzE, j10, Option.bind_some, ↓reduceIte, not_true_eq_false, not_false_eq_true]
    rfl
  | some c =>
    rw [hA] at k2
    subst k2
    simp only [zO_closed, zP_closingKinds, k0, k1, ir_let, iq_sm, ir_sm, jzE, j10, Option.bind_some, ↓reduceIte, not_true_eq_false, not_false_eq_true]
    rfl
theorem zM_stateNow_cg {I I' : iq_I} {x : Int32} (h98 : I' 98 = I 98) (h79 : I' 79 = I 79) (h80 : I' 80 = I 80) (h83 : I' 83 = I 83) : zM_stateNow_76_98 x I' = zM_stateNow_76_98 x I := by
  simp only [zM_stateNow_76_98, zM_stateOf_76_98, zM_stateOf_76_98_l6, zM_stateOf_76_98_l6_b, zM_wordAt_76_98, zM_leads, h98, h79, h80, h83]
theorem clX_f {m : jMu} {c s : Nat} (h1 : 1 ≤ mS m) : gFst (fun i => !gIt (gPr (mS m) (mEd m (kS c)) fun _ => true) (i + 1) (fun _ => true) s) (mS m) 0 = none ↔ clX m c s = true := by
  have dn : ∀ d k, gIt (gPr (mS m) (mEd m (kS c)) fun _ => true) (k + d) (fun _ => true) s = true → gIt (gPr (mS m) (mEd m (kS c)) fun _ => true) k (fun _ => true) s = true := by
    intro d
    induction d with
    | zero => intro k h; exact h
    | succ d ih => intro k h; exact ih k (gPr_dn (k + d) s h)
  rcases gFst_sp (P := fun i => !gIt (gPr (mS m) (mEd m (kS c)) fun _ => true) (i + 1) (fun _ => true) s) (c := mS m) (i := 0) with ⟨q1, q2⟩ | ⟨e, q1, _, q3, q4, _⟩
  · refine ⟨fun _ => ?_, fun _ => q1⟩
    have := q2 (mS m - 1) (by omega) (by omega)
    rw [show mS m - 1 + 1 = mS m by omega] at this
    show gIt (gPr (mS m) (mEd m (kS c)) fun _ => true) (mS m) (fun _ => true) s = true
    simpa using this
  · refine ⟨fun h => (by rw [q1] at h; cases h), fun h => ?_⟩
    have := dn (mS m - (e + 1)) (e + 1) (by rw [show e + 1 + (mS m - (e + 1)) = mS m by omega]; exact h)
    rw [this] at q4; cases q4
theorem jm_cl45 {I I' : iq_I} {m : jMu} {g : jGa} {c : Nat} {x1 x2 : Int32} (hm : mOk m) (hN : jRN I m) (hg : gOk m g) (hB : jRB I g) (hR : jRR (I 98) g) (ha : ∀ k i, (k = 76 → ¬ i = 57) → I' k i = I k i) (hs57 : I' 76 57 = jb 8 (kS c)) :
    zM_closed_l45 x1 x2 I' ir_F (jn 1, jn 0) = some (jB (clOk m g c)) := by
  have h5 := hg.1
  have h10 := hm.1
  have hY : I' 76 5 = jn (gY g) := by rw [ha 76 5 (fun _ => by decide), hB.1]
  have cg : ∀ x, zM_stateNow_76_98 x I' = zM_stateNow_76_98 x I := fun x => zM_stateNow_cg (funext fun i => ha 98 i (fun h => absurd h (by decide))) (funext fun i => ha 79 i (fun h => absurd h (by decide))) (funext fun i => ha 80 i (fun h => absurd h (by decide))) (funext fun i => ha 83 i (fun h => absurd h (by decide)))
  have E : ((jn 1, jn 0) : Int32 × Int32) = (fun y => (jB (!jex y (clB m g c)), jn y)) 0 := by
    dsimp only; rw [jex_0]; rfl
  rw [E]
  refine js_seq (fun y => (jB (!jex y (clB m g c)), jn y)) (gY g) _ (fun y hy => ?_) ?_ (gY g) 0 ir_F (by omega) (by unfold ir_F; omega)
  · have kk := jm_stateNow hm hN hg hB hR hy
    rw [← cg] at kk
    dsimp only
    unfold zM_closed_l45_b
    rw [hY, if_neg (by rw [jn_le (by omega) (by omega)]; omega), jex_s]
    cases q : jex y (clB m g c) with
    | true =>
      rw [if_pos (by decide), show (1 : Int32) = jn 1 from rfl, jn_add]; rfl
    | false =>
      rw [if_neg (by decide)]
      cases hr : gSt m g y (gB g y) none with
      | none =>
        rw [hr] at kk
        have e : clB m g c y = false := by simp [clB, hr]
        rw [kk, Option.bind_some, if_pos (show jo none = -1 from rfl), e, show jn y + (1 : Int32) = jn (y + 1) from by rw [show (1 : Int32) = jn 1 from rfl, jn_add]]; rfl
      | some s =>
        have hs := gSt_lt hm hg hy (hg.2.1 y hy) hr
        rw [hr] at kk
        have fo := jm_follows hm hN ha hs57 hs
        have nm : ¬ jo (some s) = (-1 : Int32) := jn_ne (by omega) (by decide)
        have e : clB m g c y = clX m c s := by simp [clB, hr]
        rw [kk, Option.bind_some, if_neg nm, Option.bind_some, jo_some, fo, Option.bind_some, e]
        have iff := clX_f (m := m) (c := c) (s := s) (by omega)
        cases x : clX m c s with
        | true =>
          rw [iff.mpr x, if_pos (show jo none = -1 from rfl), show jn y + (1 : Int32) = jn (y + 1) from by rw [show (1 : Int32) = jn 1 from rfl, jn_add]]; rfl
        | false =>
          have ne : ¬ gFst (fun i => !gIt (gPr (mS m) (mEd m (kS c)) fun _ => true) (i + 1) (fun _ => true) s) (mS m) 0 = none := fun h => by
            rw [iff.mp h] at x; cases x
          have ne2 : ¬ jo (gFst (fun i => !gIt (gPr (mS m) (mEd m (kS c)) fun _ => true) (i + 1) (fun _ => true) s) (mS m) 0) = (-1 : Int32) := by
            rw [jlm, jo_m (fun n hn => by
              rcases gFst_sp (P := fun i => !gIt (gPr (mS m) (mEd m (kS c)) fun _ => true) (i + 1) (fun _ => true) s) (c := mS m) (i := 0) with ⟨h1, _⟩ | ⟨k, h1, _, h3, _⟩
              · rw [h1] at hn; cases hn
              · rw [h1] at hn; cases hn; omega)]
            exact ne
          rw [if_neg ne2, show jn y + (1 : Int32) = jn (y + 1) from by rw [show (1 : Int32) = jn 1 from rfl, jn_add]]; rfl
  · dsimp only
    unfold zM_closed_l45_b
    rw [hY, if_pos (by rw [jn_le (by omega) (by omega)]; omega)]
    rfl
def clM (m : jMu) (g : jGa) : Nat → Option Nat
  | 0 => none
  | c + 1 => match clM m g c with
    | none => if clOk m g c = true then some c else none
    | some b => if pC c < pC b ∧ clOk m g c = true then some c else some b
theorem clM_sp {m : jMu} {g : jGa} : ∀ n, (clM m g n = none ∧ ∀ c, c < n → clOk m g c = false) ∨ ∃ b, clM m g n = some b ∧ b < n ∧ clOk m g b = true ∧ ∀ c, c < n → clOk m g c = true → pC b ≤ pC c ∧ (pC c = pC b → b ≤ c)
  | 0 => Or.inl ⟨rfl, fun c h => by omega⟩
  | n + 1 => by
    unfold clM
    rcases clM_sp (m := m) (g := g) n with ⟨h1, h2⟩ | ⟨b, h1, h2, h3, h4⟩
    · rw [h1]
      dsimp only
      by_cases o : clOk m g n = true
      · rw [if_pos o]
        refine Or.inr ⟨n, rfl, by omega, o, fun c hc ho => ?_⟩
        by_cases e : c = n
        · subst e; exact ⟨Nat.le_refl _, fun _ => Nat.le_refl _⟩
        · rw [h2 c (by omega)] at ho; cases ho
      · rw [if_neg o]
        refine Or.inl ⟨rfl, fun c hc => ?_⟩
        by_cases e : c = n
        · subst e; simpa using o
        · exact h2 c (by omega)
    · rw [h1]
      dsimp only
      by_cases o : pC n < pC b ∧ clOk m g n = true
      · rw [if_pos o]
        refine Or.inr ⟨n, rfl, by omega, o.2, fun c hc ho => ?_⟩
        by_cases e : c = n
        · subst e; exact ⟨Nat.le_refl _, fun _ => Nat.le_refl _⟩
        · have := h4 c (by omega) ho
          exact ⟨by omega, fun h => by omega⟩
      · rw [if_neg o]
        refine Or.inr ⟨b, rfl, by omega, h3, fun c hc ho => ?_⟩
        by_cases e : c = n
        · subst e
          have : ¬ pC c < pC b := fun h => o ⟨h, ho⟩
          exact ⟨by omega, fun _ => by omega⟩
        · exact h4 c (by omega) ho
/-- a set of kinds without those that no word has -/
def kN (P : Nat → Bool) : Nat → Nat
  | 0 => 0
  | n + 1 => kN P n ||| (if P n = true then 1 <<< n else 0)
theorem kN_t {P : Nat → Bool} : ∀ {n k : Nat}, Nat.testBit (kN P n) k = (decide (k < n) && P k)
  | 0, k => by simp [kN]
  | n + 1, k => by
    unfold kN
    rw [Nat.testBit_or, kN_t (n := n)]
    by_cases e : k = n
    · subst e
      cases h : P k with
      | true => simp [h, Nat.testBit_shiftLeft]
      | false => simp [h]
    · have e1 : decide (k < n + 1) = decide (k < n) := by
        by_cases q : k < n
        · simp [q]; omega
        · simp [q]; omega
      have e2 : Nat.testBit (if P n = true then 1 <<< n else 0) k = false := by
        by_cases h : P n = true
        · rw [if_pos h, Nat.testBit_shiftLeft]
          by_cases q : n ≤ k
          · have : (1 : Nat).testBit (k - n) = false := by
              have : ¬ k - n = 0 := by omega
              obtain ⟨j, hj⟩ : ∃ j, k - n = j + 1 := ⟨k - n - 1, by omega⟩
              rw [hj, Nat.testBit_succ]
              simp
            simp [this]
          · simp [q]
        · rw [if_neg h]; simp
      rw [e1, e2, Bool.or_false]
theorem kN_lt {P : Nat → Bool} : ∀ {n : Nat}, kN P n < 2 ^ n
  | 0 => by simp [kN]
  | n + 1 => by
    unfold kN
    have h1 := kN_lt (P := P) (n := n)
    have e : 2 ^ (n + 1) = 2 ^ n * 2 := Nat.pow_succ 2 n
    refine Nat.or_lt_two_pow (by omega) ?_
    by_cases h : P n = true
    · rw [if_pos h, Nat.one_shiftLeft]; omega
    · rw [if_neg h]; omega
theorem jt_k1 : ∀ c : Fin 256, ∀ k : Fin 14, jt (jn c.val) k.val = kS c.val k.val := by decide +kernel
theorem jt_k {c k : Nat} (hc : c < 256) (hk : k < 14) : jt (jn c) k = kS c k := jt_k1 ⟨c, hc⟩ ⟨k, hk⟩
theorem pC_81 : ∀ c : Fin 256, pC c.val ≤ 8 := by decide +kernel
theorem clOk_cg {m : jMu} {g : jGa} {c d : Nat} (h : ∀ k, k < 8 → mTold m k = true → kS c k = kS d k) : clOk m g c = clOk m g d := by
  have e : mEd m (kS c) = mEd m (kS d) := by
    funext s t
    unfold mEd
    refine jex_cg fun k hk => ?_
    cases q : mTold m k with
    | false => rfl
    | true => rw [h k hk q]
  unfold clOk
  congr 1
  refine jex_cg fun y _ => ?_
  unfold clB clX
  rw [e]
theorem clSub_f {m : jMu} {g : jGa} {c : Nat} (hc : c < 256) (h : clSub m c = false) : ∃ d, d < 256 ∧ clOk m g d = clOk m g c ∧ pC d < pC c := by
  have hd : kN (fun k => kS c k && mTold m k) 8 < 256 := kN_lt
  have tb : ∀ k, kS (kN (fun k => kS c k && mTold m k) 8) k = (decide (k < 8) && (kS c k && mTold m k)) := fun k => kN_t
  refine ⟨kN (fun k => kS c k && mTold m k) 8, hd, (clOk_cg fun k hk ht => by rw [tb, ht]; simp [hk]), ?_⟩
  unfold clSub at h
  have h : jex 8 (fun k => kS c k && !mTold m k) = true := by simpa using h
  obtain ⟨k, hk, hp⟩ := jex_iff.mp h
  simp only [Bool.and_eq_true, Bool.not_eq_true'] at hp
  refine jcn_lt (fun j hj hb => ?_) ⟨k, by omega, by rw [jt_k hc (by omega)]; exact hp.1, by rw [jt_k hd (by omega), tb, hp.2]; simp⟩
  rw [jt_k hd hj, tb] at hb
  rw [jt_k hc hj]
  simp only [Bool.and_eq_true] at hb
  exact hb.2.1
theorem clOk_255 {m : jMu} {g : jGa} (hm : mOk m) (hg : gOk m g) : clOk m g 255 = true := by
  unfold clOk
  rw [Bool.not_eq_true', jex_f]
  intro y hy
  unfold clB
  cases hr : gSt m g y (gB g y) none with
  | none => rfl
  | some s =>
    have hs := gSt_lt hm hg hy (hg.2.1 y hy) hr
    obtain ⟨n, hn⟩ : ∃ n, mS m = n + 1 := ⟨mS m - 1, by omega⟩
    dsimp only
    unfold clX
    rw [hn]
    show gPr (n + 1) (mEd m (kS 255)) (fun _ => true) _ s = false
    have k255 : ∀ k : Fin 8, kS 255 k.val = true := by decide
    have e : ∀ t, mEd m (kS 255) s t = false := fun t => jex_f.mpr fun k hk => by
      rw [k255 ⟨k, hk⟩]; simp
    simp only [gPr, e, Bool.false_and, Bool.true_and]
    exact jex_f.mpr fun _ _ => rfl
theorem clA_M {m : jMu} {g : jGa} (hm : mOk m) (hg : gOk m g) : ∃ b, b < 256 ∧ clM m g 256 = some b ∧ clA m g = some b := by
  rcases clM_sp (m := m) (g := g) 256 with ⟨_, h2⟩ | ⟨b, h1, h2, h3, h4⟩
  · have := h2 255 (by omega)
    rw [clOk_255 hm hg] at this; cases this
  · refine ⟨b, h2, h1, ?_⟩
    have sub : clSub m b = true := by
      cases q : clSub m b with
      | true => rfl
      | false =>
        obtain ⟨d, d1, d2, d3⟩ := clSub_f (g := g) h2 q
        have := (h4 d d1 (by rw [d2]; exact h3)).1
        omega
    have p8 : pC b ≤ 8 := pC_81 ⟨b, h2⟩
    have i1 : gFst (pCl m g (pC b)) 256 0 = some b := by
      rcases gFst_sp (P := pCl m g (pC b)) (c := 256) (i := 0) with ⟨_, q2⟩ | ⟨e, q1, _, q3, q4, q5⟩
      · have := q2 b (by omega) (by omega)
        simp [pCl, sub, h3] at this
      · suffices hh : e = b by rw [q1, hh]
        simp only [pCl, Bool.and_eq_true] at q4
        have q6 := of_decide_eq_true q4.1
        have q7 := (h4 e (by omega) q4.2.2).2 q6
        by_cases q8 : e = b
        · exact q8
        · have := q5 b (by omega) (by omega)
          simp [pCl, sub, h3] at this
    have i2 : gFst (fun z => (gFst (pCl m g z) 256 0).isSome) 9 0 = some (pC b) := by
      rcases gFst_sp (P := fun z => (gFst (pCl m g z) 256 0).isSome) (c := 9) (i := 0) with ⟨_, q2⟩ | ⟨e, q1, _, q3, q4, q5⟩
      · have := q2 (pC b) (by omega) (by omega)
        rw [i1] at this; cases this
      · suffices hh : e = pC b by rw [q1, hh]
        obtain ⟨c, hc⟩ := Option.isSome_iff_exists.mp q4
        have hle : pC b ≤ e := by
          rcases gFst_sp (P := pCl m g e) (c := 256) (i := 0) with ⟨r1, _⟩ | ⟨c', r1, _, r3, r4, _⟩
          · rw [r1] at hc; cases hc
          · simp only [pCl, Bool.and_eq_true] at r4
            have r6 := of_decide_eq_true r4.1
            have := (h4 c' (by omega) r4.2.2).1
            omega
        by_cases q8 : e = pC b
        · exact q8
        · have := q5 (pC b) (by omega) (by omega)
          rw [i1] at this; cases this
    unfold clA
    rw [i2]
    exact i1
theorem jq_closed {I : iq_I} (hI : jInv I) : ∃ v I1 I2, zO_closed I = some (v, I1) ∧ zM_closed I1 = some (v, I2) ∧ jag I I1 ∧ jag I I2 := by
  obtain ⟨m, g, hm, hU, hN, hB, ⟨hg, hG, hR, -, -⟩, -⟩ := hI
  obtain ⟨I1, e1, a1⟩ := jc_closed hm hU hg hG
  obtain ⟨b, hb, hM, hA⟩ := clA_M hm hg
  rw [hA, Option.getD_some] at e1
  have hN1 := jRN_ag hN (jag_tr a1 (jz_ag I1))
  have hB1 := jRB_ag hB (jag_tr a1 (jz_ag I1))
  have hR1 := jRR_ag hR (jag_tr a1 (jz_ag I1))
  have c35 : ∀ (x1 : Int32) (c : Nat) (J : iq_I), c < 256 → (∀ k i, (k = 76 → ¬ i = 57) → J k i = jz I1 k i) → ∃ J', (∀ k i, (k = 76 → ¬ i = 57) → J' k i = jz I1 k i) ∧ zM_closed_35 x1 (jn c) J = some (.inl (if clOk m g c = true then jn c else x1, jn (c + 1), J')) := fun x1 c J hc hJ => by
    have hJ' : ∀ k i, (k = 76 → ¬ i = 57) → iq_upI J 76 57 (jn c) k i = jz I1 k i := fun k i h => by
      by_cases e : k = 76
      · subst e; rw [up_ni (h rfl)]; exact hJ _ _ h
      · rw [up_nk e]; exact hJ _ _ h
    refine ⟨iq_upI J 76 57 (jn c), hJ', ?_⟩
    have k := jm_cl45 (x1 := x1) (x2 := jn c) (c := c) hm hN1 hg hB1 hR1 hJ' (by rw [up_eq, kS_jb hc])
    have k' : zM_closed_l45 x1 (jn c) (iq_upI J 76 57 (jn c)) ir_F ((1 : Int32), (0 : Int32)) = some (jB (clOk m g c)) := k
    unfold zM_closed_35
    rw [ir_let, k', Option.bind_some]
    cases clOk m g c with
    | true => rw [if_neg (by decide), if_pos (Eq.refl true), show (1 : Int32) = jn 1 from rfl, jn_add]
    | false => rw [if_pos (by decide), if_neg (by simp), show (1 : Int32) = jn 1 from rfl, jn_add]
  have key : ∃ w, zM_closed_l9 ir_F (jo none, jn 0, jz I1) = some w ∧ w.1 = jn b ∧ ∀ k i, (k = 76 → ¬ i = 57) → w.2 k i = jz I1 k i := by
    refine js_inv (fun c v => v.1 = jo (clM m g c) ∧ v.2.1 = jn c ∧ ∀ k i, (k = 76 → ¬ i = 57) → v.2.2 k i = jz I1 k i) 256 _ ?_ ?_ 256 0 (jo none, jn 0, jz I1) ir_F (by omega) ⟨rfl, rfl, fun _ _ _ => rfl⟩ (by unfold ir_F; omega)
    · rintro c ⟨x1, x2, J⟩ hc ⟨h1, h2, hJ⟩
      simp only at h1 h2 hJ
      subst h1
      subst h2
      have cc : ¬ (256 : Int32) ≤ jn c := by rw [show (256 : Int32) = jn 256 from rfl, jn_le (by omega) (by omega)]; omega
      obtain ⟨J', hJ', e'⟩ := c35 (jo (clM m g c)) c J hc hJ
      cases q : clM m g c with
      | none =>
        rw [q] at e'
        refine ⟨(jo (clM m g (c + 1)), jn (c + 1), J'), ?_, rfl, rfl, hJ'⟩
        dsimp only
        unfold zM_closed_l9_b
        rw [if_neg cc, if_pos (show jo none = -1 from rfl), e']
        unfold clM
        rw [q]
        cases clOk m g c <;> rfl
      | some b' =>
        have hb' : b' < 256 := by
          rcases clM_sp (m := m) (g := g) c with ⟨h1, _⟩ | ⟨x, h1, h2, _⟩
          · rw [h1] at q; cases q
          · rw [h1] at q; cases q; omega
        have n1 := pC_le (c := c)
        have n2 := pC_le (c := b')
        rw [q] at e'
        have nm : ¬ jo (some b') = (-1 : Int32) := jn_ne (by omega) (by decide)
        by_cases l : pC c < pC b'
        · refine ⟨(jo (clM m g (c + 1)), jn (c + 1), J'), ?_, rfl, rfl, hJ'⟩
          dsimp only
          unfold zM_closed_l9_b
          rw [if_neg cc, if_neg nm, jm_bits, Option.bind_some, jo_some, jm_bits, Option.bind_some, if_pos (by rw [jn_lt (by omega) (by omega)]; exact l), ← jo_some, e']
          unfold clM
          rw [q]
          dsimp only
          cases o : clOk m g c with
          | true => rw [if_pos (Eq.refl true), if_pos ⟨l, rfl⟩]; rfl
          | false => rw [if_neg (by simp), if_neg (by simp)]
        · refine ⟨(jo (clM m g (c + 1)), jn (c + 1), J), ?_, rfl, rfl, hJ⟩
          dsimp only
          unfold zM_closed_l9_b
          rw [if_neg cc, if_neg nm, jm_bits, Option.bind_some, jo_some, jm_bits, Option.bind_some, if_neg (by rw [jn_lt (by omega) (by omega)]; exact l)]
          unfold clM
          rw [q]
          dsimp only
          rw [if_neg (fun h => l h.1), jo_some, show (1 : Int32) = jn 1 from rfl, jn_add]
    · rintro ⟨x1, x2, J⟩ ⟨h1, h2, hJ⟩
      simp only at h1 h2 hJ
      rw [hM, jo_some] at h1
      subst h1
      subst h2
      refine ⟨(jn b, J), ?_, rfl, hJ⟩
      dsimp only
      unfold zM_closed_l9_b
      rw [if_pos (by decide)]
  obtain ⟨⟨w1, J⟩, k1, k2, k3⟩ := key
  simp only at k2 k3
  subst k2
  have k1' : zM_closed_l9 ir_F ((-1 : Int32), (0 : Int32), jz I1) = some (jn b, J) := k1
  refine ⟨jn b, I1, iq_upI J 76 57 0, e1, ?_, a1, jag_tr (jag_tr a1 (jz_ag I1)) fun k i hk => ?_⟩
  · simp only [zM_closed, ir_let, iq_sm, ir_sm, jzE, j10, Option.bind_some, ↓reduceIte, not_true_eq_false, not_false_eq_true, k1']
  · by_cases e : k = 76
    · subst e
      by_cases e2 : i = 57
      · subst e2; rw [up_eq]; exact (jRN_s hN1).symm
      · rw [up_ni e2]; exact k3 _ _ (fun _ => e2)
    · rw [up_nk e]; exact k3 _ _ (fun h => absurd h e)
