/-! ===== lines: habit, law ===== -/
/-- the class reads a rule into row r -/
def CRu (f : Nat → Nat) (n p r : Nat) (o : jOut) : Prop := ∀ I sz, CL I f n p → I 42 2 = jn sz → sz ≤ p → match o with
  | .inr (s, p') => ∃ I', zR_readRule (jn r) I = wrp (zR_passLineEnd I') ∧ CL I' f n p' ∧ I' 42 2 = jn (sz + s.length) ∧ (∀ i, i < s.length → I' 43 (sz + i) = s.getD i 0) ∧ (∀ i, i < sz → I' 43 i = I 43 i) ∧ I' 44 r = jn sz ∧ I' 45 r = jn (sz + s.length) ∧ (∀ k j, ¬ k = 62 → ¬ k = 43 → ¬ (k = 42 ∧ j = 2) → ¬ (k = 44 ∧ j = r) → ¬ (k = 45 ∧ j = r) → I' k j = I k j)
  | .inl (kd, pl) => ∃ I', zR_readRule (jn r) I = some (0, I') ∧ I' 61 1 = jn kd ∧ I' 61 0 = jn pl ∧ frC I I'
theorem jc_rule {f : Nat → Nat} {n p r : Nat} (hn : n ≤ 700) (hp : p ≤ n) (hz : p < tz f n p) (hr : r < 5) {o : jOut} (st : Stt 1 0 f n (tz f n p) o) (cs : CSp (zR_rec ir_RD 98 (0 : Int32)) f n (tz f n p) o) : CRu f n p r o := by
  intro I sz hC h42 hs
  have tz1 := tz_sp (f := f) hp
  obtain ⟨I1, e1, c1, f1⟩ := CL_next hC
  have s1 : I1 42 2 = jn sz := by rw [f1 _ _ (by omega), h42]
  have r5 : iq_in (jn r) 5 := by rw [jn_in (by omega)]; exact hr
  have kr : (jn r).toNatClampNeg = r := jn_clamp (by omega)
  have bg : ∀ K : iq_I, zE_begin (jn r) K = some (iq_upI K 44 r (K 42 2)) := fun K => by
    unfold zE_begin
    rw [if_neg (by rw [jl0, jn_lt (by omega) (by omega)]; omega), if_neg (by rw [jl5, jn_le (by omega) (by omega)]; omega), if_pos r5, kr, ir_let]
  have en : ∀ K : iq_I, zE_end (jn r) K = some (iq_upI K 45 r (K 42 2)) := fun K => by
    unfold zE_end
    rw [if_neg (by rw [jl0, jn_lt (by omega) (by omega)]; omega), if_neg (by rw [jl5, jn_le (by omega) (by omega)]; omega), if_pos r5, kr, ir_let]
  have c2 : CL (iq_upI I1 44 r (I1 42 2)) f n (tz f n p) := CL_f c1 (fun j => up_nk (by decide)) (fun j => up_nk (by decide))
  have s2 : iq_upI I1 44 r (I1 42 2) 42 2 = jn sz := by rw [up_nk (by decide), s1]
  have q := cs (iq_upI I1 44 r (I1 42 2)) sz c2 s2 (by omega)
  cases o with
  | inl ft =>
    obtain ⟨kd, pl⟩ := ft
    obtain ⟨I2, e2, g1, g2, g3⟩ := q
    refine ⟨I2, ?_, g1, g2, fun k j q => ?_⟩
    · unfold zR_readRule
      rw [e1, Option.bind_some, bg, Option.bind_some, e2, Option.bind_some, if_neg (fun h => h rfl)]
    · rw [g3 k j (by omega) (by omega) (by omega) (by omega), up_nk (by omega), f1 k j (by omega)]
  | inr ok =>
    obtain ⟨s, p'⟩ := ok
    obtain ⟨I2, e2, c3, ⟨a1, a2, a3, a4⟩⟩ := q
    refine ⟨iq_upI I2 45 r (I2 42 2), ?_, CL_f c3 (fun j => up_nk (by decide)) (fun j => up_nk (by decide)), by rw [up_nk (by decide)]; exact a1, fun i hi => by rw [up_nk (by decide)]; exact a2 i hi, fun i hi => ?_, ?_, by rw [up_eq]; exact a1, fun k j q1 q2 q3 q4 q5 => ?_⟩
    · unfold zR_readRule
      rw [e1, Option.bind_some, bg, Option.bind_some, e2, Option.bind_some, if_pos (show ¬ (1 : Int32) = 0 by decide)]
      dsimp only
      rw [en, Option.bind_some]
      rfl
    · rw [up_nk (by decide), a3 i hi, up_nk (by decide), f1 _ _ (by decide)]
    · rw [up_nk (by decide), a4 _ _ (by decide) (by decide) (by omega), up_eq, s1]
    · have e : iq_upI I2 45 r (I2 42 2) k j = I2 k j := by
        by_cases c : k = 45
        · subst c; rw [up_ni (by omega)]
        · rw [up_nk c]
      rw [e, a4 k j q1 q2 q3]
      by_cases c : k = 44
      · subst c; rw [up_ni (by omega), f1 _ _ q1]
      · rw [up_nk c, f1 _ _ q1]
def mHb1 (m : jMu) (s : List Int32) : jMu := (mS m, mW m, mA m, mE m, mL m, mK m, mT m, mR m, mP m, mV m + 1, (fun v => if v = mV m then s else mH m v), mC m)
def mLw1 (m : jMu) (s : List Int32) : jMu := (mS m, mW m, mA m, mE m, mL m, mK m, mT m, mR m, mP m, mV m, mH m, some s)
theorem jcode_st {f : Nat → Nat} {n p p' : Nat} {s : List Int32} (st : Stt 1 0 f n p (.inr (s, p'))) : jcode s := ⟨st.2.2.2.2.1 0 (by decide), st.2.2.2.1⟩
theorem dOk_hb {m : jMu} {g : jGa} {s : List Int32} (h : dOk m g) (hV : mV m < 4) (hs : jcode s) : dOk (mHb1 m s) g := by
  obtain ⟨⟨a1, a2, a3, a4, a5, a6, a7, a8⟩, hg, c, d, e⟩ := h
  refine ⟨⟨a1, a2, a3, a4, a5, hV, fun v hv => ?_, a8⟩, hg, c, d, e⟩
  show jcode (if v = mV m then s else mH m v)
  have hv : v < mV m + 1 := hv
  by_cases q : v = mV m
  · rw [if_pos q]; exact hs
  · rw [if_neg q]; exact a7 v (by omega)
theorem dOk_lw {m : jMu} {g : jGa} {s : List Int32} (h : dOk m g) (hs : jcode s) : dOk (mLw1 m s) g := by
  obtain ⟨⟨a1, a2, a3, a4, a5, a6, a7, a8⟩, hg, c, d, e⟩ := h
  refine ⟨⟨a1, a2, a3, a4, a5, a6, a7, fun x hx => ?_⟩, hg, c, d, e⟩
  have hx : some s = some x := hx
  cases hx
  exact hs
theorem jRuS_k {I I' : iq_I} {r r' : Nat} {c : List Int32} {sz sz' : Nat} (h : jRuS I r c sz) (hz : sz ≤ sz') (h43 : ∀ i, i < sz → I' 43 i = I 43 i) (h44 : I' 44 r = I 44 r) (h45 : I' 45 r = I 45 r) (e : r = r') : jRuS I' r' c sz' := by
  subst e
  obtain ⟨x, q1, q2, q3, q4⟩ := h
  exact ⟨x, by rw [h44]; exact q1, by rw [h45]; exact q2, by omega, fun i hi => by rw [h43 _ (by omega)]; exact q4 i hi⟩
def fmHa (I : iq_I) (J : iq_J) : Option (iq_I × iq_J) := if ¬ (I 76 32) = (4 : Int32) then zM_line_218 I J else (zM_wrong (2 : Int32) I).bind fun q15 => zM_line_218 q15 J
def fmLa (I : iq_I) (J : iq_J) : Option (iq_I × iq_J) := if (I 76 34) = (-1 : Int32) then zM_line_279 I J else (zM_wrong (5 : Int32) I).bind fun q9 => zM_line_279 q9 J
theorem jgm_fr {tp : Nat} {I I' : iq_I} (h : jfr 0 tp I I') : jgm I I' := fun k j hk => h k j
  (fun e => by
    obtain ⟨rfl, e⟩ := e
    have : j = 22 ∨ j = 23 ∨ j = 24 ∨ j = 25 ∨ j = 26 ∨ j = 27 ∨ j = 37 ∨ j = 38 ∨ j = 39 := by omega
    rcases this with rfl | rfl | rfl | rfl | rfl | rfl | rfl | rfl | rfl <;> cases hk)
  (fun e => by obtain ⟨rfl, -⟩ := e; cases hk) (fun e => by subst e; cases hk) (fun e => by obtain ⟨rfl, -⟩ := e; cases hk)
theorem jRnS_k {I I' : iq_I} {x tp tp' : Nat} {c : List Int32} (h : jRnS I x c tp) (hz : tp ≤ tp') (h95 : ∀ i, i < tp → I' 95 i = I 95 i) : jRnS I' x c tp' :=
  ⟨by have := h.1; omega, fun i hi => by have := h.1; rw [h95 _ (by omega)]; exact h.2 i hi⟩
theorem lnHabit {f : Nat → Nat} {n p : Nat} {m : jMu} {C : Nat → Bool} {g : jGa} (hn : n ≤ 700) (hp : p ≤ n) (hd : dOk m g) (hk : kw f n p = some 12) : ∃ o, LStL n p o ∧ LpC zR_readHabit f n p m C g o ∧ LpM fmHa f n p m C g o := by
  have hm := hd.1
  have hV4 := hm.2.2.2.2.2.1
  have ta1 := ta_sp (f := f) hp
  have tz1 := tz_sp (f := f) hp
  have tz3 := tz1.2.2.1 (by rw [(kw_lt hk).2]; decide)
  by_cases hV : mV m < 4
  · obtain ⟨o, st, cs, rs⟩ := ruleJ (f := f) hn (tz f n p) tz1.2.1
    have cr := jc_rule (r := mV m) hn hp (by omega) (by omega) st cs
    have cS : ∀ I sz, DC I f n p m C g sz → CL (iq_upI I 42 0 (jn (mV m + 1))) f n p ∧ iq_upI I 42 0 (jn (mV m + 1)) 42 2 = jn sz ∧ zR_readHabit I = wrp (zR_readRule (jn (mV m)) (iq_upI I 42 0 (jn (mV m + 1)))) := fun I sz hD => by
      obtain ⟨hC, hU, hG⟩ := hD
      obtain ⟨h1, h2, h3, h4, h5, h6, h7, h8, h9, h10, h11, h12, h13, h14, h15, h16, h17⟩ := hU
      refine ⟨CL_f hC (fun j => up_nk (by decide)) (fun j => up_nk (by decide)), by rw [up_ni (by decide)]; exact h17, ?_⟩
      unfold zR_readHabit
      rw [h13, if_pos (by rw [jl4, jn_lt (by omega) (by omega)]; exact hV), show jn (mV m) + (1 : Int32) = jn (mV m + 1) from jn_add _ 1, ir_let]
      rfl
    have mS' : ∀ I J tp, DM I J f n p m C g tp → ∃ I2 J2, ML I2 J2 f n (tz f n p) ∧ I2 76 18 = 0 ∧ I2 76 37 = jn tp ∧ I2 92 (mV m) = jn tp ∧ I2 76 32 = jn (mV m + 1) ∧ (∀ k j, ¬ (k = 76 ∧ ((22 ≤ j ∧ j ≤ 27) ∨ j = 32)) → ¬ (k = 92 ∧ j = mV m) → I2 k j = I k j) ∧ (∀ k j, ¬ k = 76 → J2 k j = J k j) ∧ fmHa I J = (zM_expression I2 J2).bind fun q14 => zM_line_311 q14.1 q14.2 := fun I J tp hD => by
      obtain ⟨I1, J1, e1, m1, g1, j1⟩ := ML_next hD.1
      have s32 : I1 76 32 = jn (mV m) := by rw [g1 _ _ (by omega)]; exact hD.2.2.1.2.2.2.2.2.2.2.2.2.2.1
      have s37 : I1 76 37 = jn tp := by rw [g1 _ _ (by omega)]; exact hD.2.2.1.2.2.2.2.2.2.2.2.2.2.2.2.2.2
      have fr : ∀ k j, ¬ (k = 76 ∧ j = 32) → ¬ (k = 92 ∧ j = mV m) → iq_upI (iq_upI I1 92 (mV m) (jn tp)) 76 32 (jn (mV m + 1)) k j = I1 k j := fun k j q1 q2 => by
        by_cases c : k = 76
        · subst c; rw [up_ni (by omega), up_nk (by decide)]
        · rw [up_nk c]
          by_cases c2 : k = 92
          · subst c2; rw [up_ni (by omega)]
          · rw [up_nk c2]
      refine ⟨iq_upI (iq_upI I1 92 (mV m) (jn tp)) 76 32 (jn (mV m + 1)), J1, ML_f m1 (fun j => fr _ _ (by omega) (by omega)) (fun j _ _ => fr _ _ (by omega) (by omega)) rfl, by rw [fr _ _ (by omega) (by omega), g1 _ _ (by omega)]; exact hD.2.1, by rw [fr _ _ (by omega) (by omega)]; exact s37, by rw [up_nk (by decide), up_eq], up_eq, fun k j q1 q2 => by rw [fr k j (by omega) q2, g1 k j (by omega)], j1, ?_⟩
      unfold fmHa zM_line_218
      rw [hD.2.2.1.2.2.2.2.2.2.2.2.2.2.1, if_pos (by rw [jl4, jn_inj (by omega) (by omega)]; omega), jm_good hD.2.1, Option.bind_some, if_pos (by decide), e1, Option.bind_some]
      dsimp only
      rw [if_pos (show iq_in (I1 76 32) 4 by rw [s32, jn_in (by omega)]; exact hV), s32, jn_clamp (by omega), s37, ir_let, up_nk (by decide), s32, show jn (mV m) + (1 : Int32) = jn (mV m + 1) from jn_add _ 1, ir_let]
    cases o with
    | inl ft =>
      obtain ⟨kd, pl⟩ := ft
      refine ⟨.inl (kd, pl), st, fun I sz hD hs => ?_, fun I J tp hD hs => ?_⟩
      · obtain ⟨c1, s1, e1⟩ := cS I sz hD
        obtain ⟨I2, e2, g1, g2, f2⟩ := cr _ sz c1 s1 hs
        exact ⟨I2, by rw [e1, e2, wrp_0], g1, g2, fun k j q => by rw [f2 k j q, up_nk (by omega)]⟩
      · obtain ⟨I2, J2, m2, g2, s37, s92, s32, f2, j2, e2⟩ := mS' I J tp hD
        obtain ⟨w, e3, fl⟩ := rs I2 J2 tp m2 g2 s37 (by omega)
        have b3 : ¬ w.1 76 18 = 0 := by
          have k1 := st.1
          have k2 := st.2.1
          rw [fl.1, jl0, jn_inj (by omega) (by omega)]; omega
        have a2 : jgm I I2 := fun k j hk => f2 k j (fun e => by
          obtain ⟨rfl, e⟩ := e
          have : j = 22 ∨ j = 23 ∨ j = 24 ∨ j = 25 ∨ j = 26 ∨ j = 27 ∨ j = 32 := by omega
          rcases this with rfl | rfl | rfl | rfl | rfl | rfl | rfl <;> cases hk) (fun e => by obtain ⟨rfl, -⟩ := e; cases hk)
        refine ⟨w, ?_, Flt_tr fl a2 j2⟩
        rw [e2, e3, Option.bind_some, jm_311b b3]
    | inr ok =>
      obtain ⟨s, p'⟩ := ok
      have st' := st
      obtain ⟨t1, t2, t3, t4, t5, t6⟩ := st'
      refine ⟨.inr (mHb1 m s, C, g, p'), ⟨dOk_hb hd hV (jcode_st st), by omega, t2⟩, fun I sz hD hs => ?_, fun I J tp hD hs => ?_⟩
      · obtain ⟨c1, s1, e1⟩ := cS I sz hD
        obtain ⟨I2, e2, c2, a1, a2, a3, a4, a5, a6⟩ := cr _ sz c1 s1 hs
        have fr : ∀ k j, ¬ k = 62 → ¬ k = 43 → ¬ (k = 42 ∧ (j = 2 ∨ j = 0)) → ¬ (k = 44 ∧ j = mV m) → ¬ (k = 45 ∧ j = mV m) → I2 k j = I k j := fun k j q1 q2 q3 q4 q5 => by
          rw [a6 k j q1 q2 (by omega) q4 q5]
          by_cases c : k = 42
          · subst c; rw [up_ni (by omega)]
          · rw [up_nk c]
        refine ⟨I2, sz + s.length, ?_, ⟨c2, ?_, dG_f hD.2.2 fun k j q => fr k j (by omega) (by omega) (by omega) (by omega) (by omega)⟩, by omega, fun k j q => fr k j (by omega) (by omega) (by omega) (by omega) (by omega)⟩
        · rw [e1, e2]
          unfold wrp
          cases zR_passLineEnd I2 with
          | none => rfl
          | some v =>
            rw [Option.bind_some]
            by_cases q : v.1 = 0 ∨ v.1 = 1
            · rw [if_pos q, Option.bind_some, if_pos q]
            · rw [if_neg q]; rfl
        · obtain ⟨h1, h2, h3, h4, h5, h6, h7, h8, h9, h10, h11, h12, h13, h14, h15, h16, h17⟩ := hD.2.1
          have a3' : ∀ i, i < sz → I2 43 i = I 43 i := fun i hi => by rw [a3 i hi, up_nk (by decide)]
          refine ⟨by rw [fr _ _ (by omega) (by omega) (by omega) (by omega) (by omega)]; exact h1, by rw [fr _ _ (by omega) (by omega) (by omega) (by omega) (by omega)]; exact h2, by rw [fr _ _ (by omega) (by omega) (by omega) (by omega) (by omega)]; exact h3, by rw [fr _ _ (by omega) (by omega) (by omega) (by omega) (by omega)]; exact h4, by rw [fr _ _ (by omega) (by omega) (by omega) (by omega) (by omega)]; exact h5, by rw [fr _ _ (by omega) (by omega) (by omega) (by omega) (by omega)]; exact h6, fun w hw => by rw [fr _ _ (by omega) (by omega) (by omega) (by omega) (by omega)]; exact h7 w hw, fun w hw => by rw [fr _ _ (by omega) (by omega) (by omega) (by omega) (by omega)]; exact h8 w hw, fun k hk => by rw [fr _ _ (by omega) (by omega) (by omega) (by omega) (by omega)]; exact h9 k hk, fun w i hw hi => by rw [fr _ _ (by omega) (by omega) (by omega) (by omega) (by omega)]; exact h10 w i hw hi, fun s k hs hk => by rw [fr _ _ (by omega) (by omega) (by omega) (by omega) (by omega)]; exact h11 s k hs hk, fun k hk => by rw [fr _ _ (by omega) (by omega) (by omega) (by omega) (by omega)]; exact h12 k hk, ?_, by rw [fr _ _ (by omega) (by omega) (by omega) (by omega) (by omega)]; exact h14, fun v hv => ?_, fun c hc => ?_, a1⟩
          · rw [a6 _ _ (by omega) (by omega) (by omega) (by omega) (by omega), up_eq]; rfl
          · show jRuS I2 v (if v = mV m then s else mH m v) _
            have hv : v < mV m + 1 := hv
            by_cases q : v = mV m
            · rw [if_pos q, q]
              exact ⟨sz, a4, a5, Nat.le_refl _, a2⟩
            · rw [if_neg q]
              exact jRuS_k (h15 v (by omega)) (by omega) a3' (fr _ _ (by omega) (by omega) (by omega) (by omega) (by omega)) (fr _ _ (by omega) (by omega) (by omega) (by omega) (by omega)) rfl
          · exact jRuS_k (h16 c hc) (by omega) a3' (fr _ _ (by omega) (by omega) (by omega) (by omega) (by omega)) (fr _ _ (by omega) (by omega) (by omega) (by omega) (by omega)) rfl
      · obtain ⟨I2, J2, m2, g2, s37, s92, s32, f2, j2, e2⟩ := mS' I J tp hD
        obtain ⟨I3, J3, e3, m3, g3, s37', c95, f3, j3, ln⟩ := rs I2 J2 tp m2 g2 s37 (by omega)
        have fr : ∀ k j, ¬ (k = 76 ∧ ((22 ≤ j ∧ j ≤ 27) ∨ j = 32 ∨ (37 ≤ j ∧ j ≤ 39))) → ¬ (k = 92 ∧ j = mV m) → ¬ (k = 95 ∧ tp ≤ j) → ¬ k = 96 → ¬ k = 97 → I3 k j = I k j := fun k j q1 q2 q3 q4 q5 => by
          rw [f3 k j (by omega) q3 q4 (by omega), f2 k j (by omega) q2]
        have a2 : jgm I I2 := fun k j hk => f2 k j (fun e => by
          obtain ⟨rfl, e⟩ := e
          have : j = 22 ∨ j = 23 ∨ j = 24 ∨ j = 25 ∨ j = 26 ∨ j = 27 ∨ j = 32 := by omega
          rcases this with rfl | rfl | rfl | rfl | rfl | rfl | rfl <;> cases hk) (fun e => by obtain ⟨rfl, -⟩ := e; cases hk)
        refine ⟨I3, J3, tp + (jencs s).length, ?_, ⟨m3, g3, ?_, dR_f hD.2.2.2 (fr _ _ (by omega) (by omega) (by omega) (by omega) (by omega)) (fun k j q => fr _ _ (by omega) (by omega) (by omega) (by omega) (by omega))⟩, by omega, jgm_tr a2 (jgm_fr f3), fun k j q => by rw [j3 k j q, j2 k j q]⟩
        · rw [e2, e3, Option.bind_some]
        · obtain ⟨h1, h2, h3, h4, h5, h6, h7, h8, h9, h10, h11, h12, h13, h14, h15⟩ := hD.2.2.1
          have c95' : ∀ i, i < tp → I3 95 i = I 95 i := fun i hi => fr _ _ (by omega) (by omega) (by omega) (by omega) (by omega)
          refine ⟨by rw [fr _ _ (by omega) (by omega) (by omega) (by omega) (by omega)]; exact h1, by rw [fr _ _ (by omega) (by omega) (by omega) (by omega) (by omega)]; exact h2, by rw [fr _ _ (by omega) (by omega) (by omega) (by omega) (by omega)]; exact h3, by rw [fr _ _ (by omega) (by omega) (by omega) (by omega) (by omega)]; exact h4, by rw [fr _ _ (by omega) (by omega) (by omega) (by omega) (by omega)]; exact h5, fun w hw => by rw [fr _ _ (by omega) (by omega) (by omega) (by omega) (by omega)]; exact h6 w hw, fun w hw => by rw [fr _ _ (by omega) (by omega) (by omega) (by omega) (by omega)]; exact h7 w hw, fun w i hw hi => by rw [fr _ _ (by omega) (by omega) (by omega) (by omega) (by omega)]; exact h8 w i hw hi, fun s k hs hk => by rw [fr _ _ (by omega) (by omega) (by omega) (by omega) (by omega)]; exact h9 s k hs hk, fun k hk => by rw [fr _ _ (by omega) (by omega) (by omega) (by omega) (by omega)]; exact h10 k hk, ?_, fun v hv => ?_, fun e => by rw [fr _ _ (by omega) (by omega) (by omega) (by omega) (by omega)]; exact h13 e, fun c hc => ?_, s37'⟩
          · rw [f3 _ _ (by omega) (by omega) (by omega) (by omega), s32]; rfl
          · show ∃ x, I3 92 v = jn x ∧ jRnS I3 x (if v = mV m then s else mH m v) _
            have hv : v < mV m + 1 := hv
            by_cases q : v = mV m
            · rw [if_pos q, q]
              exact ⟨tp, by rw [f3 _ _ (by omega) (by omega) (by omega) (by omega), s92], Nat.le_refl _, c95⟩
            · rw [if_neg q]
              obtain ⟨x, q1, q2⟩ := h12 v (by omega)
              exact ⟨x, by rw [fr _ _ (by omega) (by omega) (by omega) (by omega) (by omega)]; exact q1, jRnS_k q2 (by omega) c95'⟩
          · obtain ⟨x, q1, q2⟩ := h14 c hc
            exact ⟨x, by rw [fr _ _ (by omega) (by omega) (by omega) (by omega) (by omega)]; exact q1, jRnS_k q2 (by omega) c95'⟩
  · have e4 : mV m = 4 := by omega
    refine ⟨.inl (2, ta f n p), ⟨by decide, by decide, ta1.2.1⟩, fun I sz hD hs => ?_, fun I J tp hD hs => ?_⟩
    · obtain ⟨I1, e1, g1, g2, g3⟩ := jc_ref hD.1 2
      refine ⟨I1, ?_, g1, g2, fun k j q => g3 k j (by omega)⟩
      unfold zR_readHabit
      rw [hD.2.1.2.2.2.2.2.2.2.2.2.2.2.2.1, e4, if_neg (by decide)]
      exact e1
    · obtain ⟨I2, e2, b2, g2, -⟩ := jm_fl (J := J) hD.1 hD.2.1 (kd := 2) (by decide) (by decide)
      have e2 : zM_wrong (2 : Int32) I = some I2 := e2
      refine ⟨(I2, J), ?_, g2⟩
      unfold fmHa zM_line_218
      rw [hD.2.2.1.2.2.2.2.2.2.2.2.2.2.1, e4, if_neg (fun h => h rfl), e2, Option.bind_some, jm_bad b2, Option.bind_some, if_neg (fun h => h rfl)]
