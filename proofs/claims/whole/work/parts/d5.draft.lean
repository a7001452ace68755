/-! ===== lines: what both sides have read so far ===== -/
def jRuS (I : iq_I) (r : Nat) (c : List Int32) (sz : Nat) : Prop := ∃ x, I 44 r = jn x ∧ I 45 r = jn (x + c.length) ∧ x + c.length ≤ sz ∧ ∀ i, i < c.length → I 43 (x + i) = c.getD i 0
/-- the class's draft of a museum -/
def dU (I : iq_I) (m : jMu) (C : Nat → Bool) (sz : Nat) : Prop :=
  I 38 0 = jn (mS m) ∧ I 38 1 = jb (mS m) (mE m) ∧ I 38 2 = jn (mW m) ∧ I 38 3 = mA m ∧ I 38 4 = jb 8 (mTold m) ∧ I 38 5 = jb 8 C ∧
  (∀ w, w < mW m → I 39 w = jn (mL m w)) ∧ (∀ w, w < mW m → I 40 w = jn (mK m w)) ∧ (∀ k, k < 8 → I 41 k = jn (jcn (mW m) fun w => decide (mK m w = k))) ∧
  (∀ w i, w < mW m → i < mL m w → I 47 (w * 9 + i) = mT m w i) ∧ (∀ s k, s < 10 → k < 8 → I 48 (s * 8 + k) = jo (mR m s k)) ∧ (∀ k, k < 8 → I 49 k = jn (mP m k)) ∧
  I 42 0 = jn (mV m) ∧ I 42 1 = (if mC m = none then 0 else 1) ∧ (∀ v, v < mV m → jRuS I v (mH m v) sz) ∧ (∀ c, mC m = some c → jRuS I 4 c sz) ∧ I 42 2 = jn sz
def dG (I : iq_I) (g : jGa) : Prop := jRG I 50 51 52 58 g ∧ I 50 2 = 0 ∧ I 53 0 = 0 ∧ I 61 1 = 0
def jRnS (I : iq_I) (x : Nat) (c : List Int32) (tp : Nat) : Prop := x + (jencs c).length ≤ tp ∧ ∀ i, i < (jencs c).length → I 95 (x + i) = (jencs c).getD i 0
/-- the reference's -/
def dN (I : iq_I) (m : jMu) (C : Nat → Bool) (tp : Nat) : Prop :=
  I 76 29 = jn (mS m) ∧ I 76 35 = jb (mS m) (mE m) ∧ I 76 30 = jn (mW m) ∧ I 76 31 = mA m ∧ I 76 36 = jb 8 C ∧
  (∀ w, w < mW m → I 88 w = jn (mL m w)) ∧ (∀ w, w < mW m → I 89 w = jn (mK m w)) ∧
  (∀ w i, w < mW m → i < mL m w → I 87 (9 * w + i) = mT m w i) ∧ (∀ s k, s < 10 → k < 8 → I 90 (8 * s + k) = jo (mR m s k)) ∧ (∀ k, k < 8 → I 91 k = jn (mP m k)) ∧
  I 76 32 = jn (mV m) ∧ (∀ v, v < mV m → ∃ x, I 92 v = jn x ∧ jRnS I x (mH m v) tp) ∧ (mC m = none → I 76 34 = -1) ∧ (∀ c, mC m = some c → ∃ x, I 76 34 = jn x ∧ jRnS I x c tp) ∧ I 76 37 = jn tp
def dR (I : iq_I) (g : jGa) : Prop := I 76 33 = jn (gY g) ∧ (∀ s, s < gY g → I 93 s = jn (gB g s)) ∧ jRR (I 94) g
def dOk (m : jMu) (g : jGa) : Prop := mOk m ∧ gOk m g ∧ gD g = 0 ∧ (∀ s k, mS m ≤ s → s < 10 → mR m s k = none) ∧ ∃ A, A ≤ 24 ∧ mA m = jn A
theorem dU_f {I I' : iq_I} {m : jMu} {C : Nat → Bool} {sz : Nat} (h : dU I m C sz) (a : ∀ k j, 38 ≤ k → k ≤ 49 → I' k j = I k j) : dU I' m C sz := by
  obtain ⟨h1, h2, h3, h4, h5, h6, h7, h8, h9, h10, h11, h12, h13, h14, h15, h16, h17⟩ := h
  have r : ∀ r c, jRuS I r c sz → jRuS I' r c sz := fun r c ⟨x, q1, q2, q3, q4⟩ => ⟨x, by rw [a _ _ (by omega) (by omega), q1], by rw [a _ _ (by omega) (by omega), q2], q3, fun i hi => by rw [a _ _ (by omega) (by omega), q4 i hi]⟩
  exact ⟨by rw [a _ _ (by omega) (by omega), h1], by rw [a _ _ (by omega) (by omega), h2], by rw [a _ _ (by omega) (by omega), h3], by rw [a _ _ (by omega) (by omega), h4], by rw [a _ _ (by omega) (by omega), h5], by rw [a _ _ (by omega) (by omega), h6], fun w hw => by rw [a _ _ (by omega) (by omega), h7 w hw], fun w hw => by rw [a _ _ (by omega) (by omega), h8 w hw], fun k hk => by rw [a _ _ (by omega) (by omega), h9 k hk], fun w i hw hi => by rw [a _ _ (by omega) (by omega), h10 w i hw hi], fun s k hs hk => by rw [a _ _ (by omega) (by omega), h11 s k hs hk], fun k hk => by rw [a _ _ (by omega) (by omega), h12 k hk], by rw [a _ _ (by omega) (by omega), h13], by rw [a _ _ (by omega) (by omega), h14], fun v hv => r _ _ (h15 v hv), fun c hc => r _ _ (h16 c hc), by rw [a _ _ (by omega) (by omega), h17]⟩
theorem dG_f {I I' : iq_I} {g : jGa} (h : dG I g) (a : ∀ k j, k = 50 ∨ k = 51 ∨ k = 52 ∨ k = 53 ∨ k = 58 ∨ k = 61 → I' k j = I k j) : dG I' g :=
  ⟨jRG_f h.1 (a _ _ (by omega)) (a _ _ (by omega)) (fun _ => a _ _ (by omega)) (fun _ => a _ _ (by omega)) (fun _ => a _ _ (by omega)), by rw [a _ _ (by omega), h.2.1], by rw [a _ _ (by omega), h.2.2.1], by rw [a _ _ (by omega), h.2.2.2]⟩
theorem dN_f {I I' : iq_I} {m : jMu} {C : Nat → Bool} {tp : Nat} (h : dN I m C tp) (a : ∀ j, 29 ≤ j → j ≤ 37 → I' 76 j = I 76 j) (b : ∀ k j, (87 ≤ k ∧ k ≤ 92) ∨ k = 95 → I' k j = I k j) : dN I' m C tp := by
  obtain ⟨h1, h2, h3, h4, h5, h6, h7, h8, h9, h10, h11, h12, h13, h14, h15⟩ := h
  have r : ∀ x c, jRnS I x c tp → jRnS I' x c tp := fun x c ⟨q1, q2⟩ => ⟨q1, fun i hi => by rw [b _ _ (by omega), q2 i hi]⟩
  exact ⟨by rw [a _ (by omega) (by omega), h1], by rw [a _ (by omega) (by omega), h2], by rw [a _ (by omega) (by omega), h3], by rw [a _ (by omega) (by omega), h4], by rw [a _ (by omega) (by omega), h5], fun w hw => by rw [b _ _ (by omega), h6 w hw], fun w hw => by rw [b _ _ (by omega), h7 w hw], fun w i hw hi => by rw [b _ _ (by omega), h8 w i hw hi], fun s k hs hk => by rw [b _ _ (by omega), h9 s k hs hk], fun k hk => by rw [b _ _ (by omega), h10 k hk], by rw [a _ (by omega) (by omega), h11], fun v hv => by
    obtain ⟨x, q1, q2⟩ := h12 v hv
    exact ⟨x, by rw [b _ _ (by omega), q1], r _ _ q2⟩, fun e => by rw [a _ (by omega) (by omega), h13 e], fun c hc => by
    obtain ⟨x, q1, q2⟩ := h14 c hc
    exact ⟨x, by rw [a _ (by omega) (by omega), q1], r _ _ q2⟩, by rw [a _ (by omega) (by omega), h15]⟩
theorem dR_f {I I' : iq_I} {g : jGa} (h : dR I g) (a : I' 76 33 = I 76 33) (b : ∀ k j, k = 93 ∨ k = 94 → I' k j = I k j) : dR I' g :=
  ⟨by rw [a, h.1], fun s hs => by rw [b _ _ (by omega), h.2.1 s hs], jRR_cg h.2.2 fun j => b _ _ (by omega)⟩
def DC (I : iq_I) (f : Nat → Nat) (n p : Nat) (m : jMu) (C : Nat → Bool) (g : jGa) (sz : Nat) : Prop := CL I f n p ∧ dU I m C sz ∧ dG I g
def DM (I : iq_I) (J : iq_J) (f : Nat → Nat) (n p : Nat) (m : jMu) (C : Nat → Bool) (g : jGa) (tp : Nat) : Prop := ML I J f n p ∧ I 76 18 = 0 ∧ dN I m C tp ∧ dR I g
def frC (I I' : iq_I) : Prop := ∀ k j, k < 38 ∨ 62 < k → I' k j = I k j
theorem frC_rf (I : iq_I) : frC I I := fun _ _ _ => rfl
theorem frC_tr {I I' I'' : iq_I} (h : frC I I') (h' : frC I' I'') : frC I I'' := fun k j q => (h' k j q).trans (h k j q)
theorem frC_up {I I' : iq_I} (h : frC I I') {k i : Nat} {v : Int32} (hk : 38 ≤ k ∧ k ≤ 62) : frC I (iq_upI I' k i v) := fun a j q => by rw [up_nk (by omega), h a j q]
theorem DC_next {I : iq_I} {f : Nat → Nat} {n p : Nat} {m : jMu} {C : Nat → Bool} {g : jGa} {sz : Nat} (h : DC I f n p m C g sz) : ∃ I', zT_next I = some I' ∧ DC I' f n (tz f n p) m C g sz ∧ frC I I' := by
  obtain ⟨h1, h2, h3⟩ := h
  obtain ⟨I', e, c, fr⟩ := CL_next h1
  exact ⟨I', e, ⟨c, dU_f h2 fun k j q1 q2 => fr k j (by omega), dG_f h3 fun k j q => fr k j (by omega)⟩, fun k j q => fr k j (by omega)⟩
theorem jgm_go {I I' : iq_I} (h : jgo I I') : jgm I I' := fun k j hk => h k j (fun e => by
  obtain ⟨rfl, e1, e2⟩ := e
  have : j = 22 ∨ j = 23 ∨ j = 24 ∨ j = 25 ∨ j = 26 ∨ j = 27 := by omega
  rcases this with rfl | rfl | rfl | rfl | rfl | rfl <;> cases hk)
theorem DM_next {I : iq_I} {J : iq_J} {f : Nat → Nat} {n p : Nat} {m : jMu} {C : Nat → Bool} {g : jGa} {tp : Nat} (h : DM I J f n p m C g tp) : ∃ I' J', zM_goes I J = some (I', J') ∧ DM I' J' f n (tz f n p) m C g tp ∧ jgm I I' ∧ (∀ k j, ¬ k = 76 → J' k j = J k j) := by
  obtain ⟨h1, h2, h3, h4⟩ := h
  obtain ⟨I', J', e, c, go, jf⟩ := ML_next h1
  exact ⟨I', J', e, ⟨c, by rw [go _ _ (by omega), h2], dN_f h3 (fun j q1 q2 => go _ _ (by omega)) (fun k j q => go _ _ (by omega)), dR_f h4 (go _ _ (by omega)) (fun k j q => go _ _ (by omega))⟩, jgm_go go, jf⟩
/-- a line's outcome -/
abbrev jLO : Type := (Nat × Nat) ⊕ (jMu × (Nat → Bool) × jGa × Nat)
def LStL (n p : Nat) : jLO → Prop
  | .inr (m, _, g, p') => dOk m g ∧ p < p' ∧ p' ≤ n
  | .inl (kd, pl) => 0 < kd ∧ kd < 10 ∧ pl ≤ n
def wrp (r : Option (Int32 × iq_I)) : Option (Int32 × iq_I) := r.bind fun q => if q.1 = 0 ∨ q.1 = 1 then some (q.1, q.2) else none
theorem wrp_1 {I : iq_I} : wrp (some ((1 : Int32), I)) = some ((1 : Int32), I) := rfl
theorem wrp_0 {I : iq_I} : wrp (some ((0 : Int32), I)) = some ((0 : Int32), I) := rfl
def LnC (fn : iq_I → Option (Int32 × iq_I)) (f : Nat → Nat) (n p : Nat) (m : jMu) (C : Nat → Bool) (g : jGa) (o : jLO) : Prop := ∀ I sz, DC I f n p m C g sz → sz ≤ p → match o with
  | .inr (m', C', g', p') => ∃ I' sz', fn I = some (1, I') ∧ DC I' f n p' m' C' g' sz' ∧ sz' ≤ p' ∧ frC I I'
  | .inl (kd, pl) => ∃ I', fn I = some (0, I') ∧ I' 61 1 = jn kd ∧ I' 61 0 = jn pl ∧ frC I I'
def LnM (fn : iq_I → iq_J → Option (iq_I × iq_J)) (f : Nat → Nat) (n p : Nat) (m : jMu) (C : Nat → Bool) (g : jGa) (o : jLO) : Prop := ∀ I J tp, DM I J f n p m C g tp → tp ≤ 3 * p → match o with
  | .inr (m', C', g', p') => ∃ I' J' tp', fn I J = some (I', J') ∧ DM I' J' f n p' m' C' g' tp' ∧ tp' ≤ 3 * p' ∧ jgm I I' ∧ (∀ k j, ¬ k = 76 → J' k j = J k j)
  | .inl (kd, pl) => ∃ w, fn I J = some w ∧ Flt kd pl I J w
/-- a line but for its end -/
def LpC (fn : iq_I → Option (Int32 × iq_I)) (f : Nat → Nat) (n p : Nat) (m : jMu) (C : Nat → Bool) (g : jGa) (o : jLO) : Prop := ∀ I sz, DC I f n p m C g sz → sz ≤ p → match o with
  | .inr (m', C', g', p') => ∃ I' sz', fn I = wrp (zR_passLineEnd I') ∧ DC I' f n p' m' C' g' sz' ∧ sz' ≤ p' ∧ frC I I'
  | .inl (kd, pl) => ∃ I', fn I = some (0, I') ∧ I' 61 1 = jn kd ∧ I' 61 0 = jn pl ∧ frC I I'
def LpM (fn : iq_I → iq_J → Option (iq_I × iq_J)) (f : Nat → Nat) (n p : Nat) (m : jMu) (C : Nat → Bool) (g : jGa) (o : jLO) : Prop := ∀ I J tp, DM I J f n p m C g tp → tp ≤ 3 * p → match o with
  | .inr (m', C', g', p') => ∃ I' J' tp', fn I J = zM_line_311 I' J' ∧ DM I' J' f n p' m' C' g' tp' ∧ tp' ≤ 3 * p' ∧ jgm I I' ∧ (∀ k j, ¬ k = 76 → J' k j = J k j)
  | .inl (kd, pl) => ∃ w, fn I J = some w ∧ Flt kd pl I J w
/-- the reference finds a fault at its token -/
theorem jm_fl {I : iq_I} {J : iq_J} {f : Nat → Nat} {n p : Nat} (hM : ML I J f n p) (hg : I 76 18 = 0) {kd : Nat} (hk : 0 < kd) (hk6 : kd < 10) : ∃ I2, zM_wrong (jn kd) I = some I2 ∧ (¬ I2 76 18 = 0) ∧ Flt kd (ta f n p) I J (I2, J) ∧ (∀ k j, ¬ (k = 76 ∧ (j = 18 ∨ j = 19)) → I2 k j = I k j) := by
  have fr : ∀ k j, ¬ (k = 76 ∧ (j = 18 ∨ j = 19)) → iq_upI (iq_upI I 76 18 (jn kd)) 76 19 (I 76 24) k j = I k j := fun k j q => by
    by_cases e : k = 76
    · subst e; rw [up_ni (by omega), up_ni (by omega)]
    · rw [up_nk e, up_nk e]
  have e18 : iq_upI (iq_upI I 76 18 (jn kd)) 76 19 (I 76 24) 76 18 = jn kd := by rw [up_ni (by decide), up_eq]
  refine ⟨_, jm_wrong hg, ?_, ⟨e18, ?_, jfz_up (jfz_up (jfz_rf I) (Or.inl rfl)) (Or.inr ⟨rfl, rfl⟩), fun _ _ _ => rfl⟩, fr⟩
  · rw [e18, jl0, jn_inj (by omega) (by omega)]; omega
  · show iq_upI (iq_upI I 76 18 (jn kd)) 76 19 (I 76 24) 76 19 = _
    rw [up_eq, hM.2.2.2.2.2.1]
theorem jm_311b {I : iq_I} {J : iq_J} (hb : ¬ I 76 18 = 0) : zM_line_311 I J = some (I, J) := by
  unfold zM_line_311 zM_isSign zM_need
  have : ∀ q : Int32, ((zM_isGood I).bind fun q1 => if ¬ q1 = 0 then (if q = 0 then (zM_wrong (1 : Int32) I).bind fun q2 => some (q2, J) else (zM_goes I J).bind fun q3 => some (q3.1, q3.2)) else some (I, J)) = some (I, J) := fun q => by
    rw [jm_bad hb, Option.bind_some, if_neg (fun h => h rfl)]
  split
  · rw [Option.bind_some, this, Option.bind_some]
  · split
    · rw [Option.bind_some, this, Option.bind_some]
    · rw [Option.bind_some, this, Option.bind_some]
theorem lineEnd {fc : iq_I → Option (Int32 × iq_I)} {fm : iq_I → iq_J → Option (iq_I × iq_J)} {f : Nat → Nat} {n p : Nat} {m : jMu} {C : Nat → Bool} {g : jGa} (h : ∃ o, LStL n p o ∧ LpC fc f n p m C g o ∧ LpM fm f n p m C g o) : ∃ o, LStL n p o ∧ LnC fc f n p m C g o ∧ LnM fm f n p m C g o := by
  obtain ⟨o, st, hc, hm⟩ := h
  cases o with
  | inl ft => exact ⟨.inl ft, st, hc, hm⟩
  | inr ok =>
    obtain ⟨m', C', g', q⟩ := ok
    obtain ⟨s1, s2, s3⟩ := st
    have tz1 := tz_sp (f := f) s3
    have ta1 := ta_sp (f := f) s3
    cases s59 : sgn f n q 59 with
    | true =>
      have tz3 := tz1.2.2.1 (by rw [(sgn_t s59).1]; decide)
      refine ⟨.inr (m', C', g', tz f n q), ⟨s1, by omega, tz1.2.1⟩, fun I sz hD hs => ?_, fun I J tp hD hs => ?_⟩
      · obtain ⟨I1, sz1, e1, d1, z1, f1⟩ := hc I sz hD hs
        obtain ⟨I2, e2, d2, f2⟩ := DC_next d1
        have c59 : zT_isSign (59 : Int32) I1 = some 1 := (jc_isSign d1.1 (c := 59) (by decide)).trans (by rw [s59]; rfl)
        refine ⟨I2, sz1, ?_, d2, by omega, frC_tr f1 f2⟩
        rw [e1]
        unfold zR_passLineEnd
        rw [c59, Option.bind_some, if_pos (by decide), e2, Option.bind_some]
        rfl
      · obtain ⟨I1, J1, tp1, e1, d1, z1, f1, j1⟩ := hm I J tp hD hs
        obtain ⟨I2, J2, e2, d2, f2, j2⟩ := DM_next d1
        have c59 : zM_isSign (59 : Int32) I1 = some 1 := (jm_isSign d1.1 (c := 59) (by decide)).trans (by rw [s59]; rfl)
        refine ⟨I2, J2, tp1, ?_, d2, by omega, jgm_tr f1 f2, fun k j q => by rw [j2 k j q, j1 k j q]⟩
        rw [e1]
        unfold zM_line_311 zM_need
        rw [c59, Option.bind_some, jm_good d1.2.1, Option.bind_some, if_pos (by decide), if_neg (by decide), e2, Option.bind_some, Option.bind_some]
    | false =>
      refine ⟨.inl (1, ta f n q), ⟨by decide, by decide, ta1.2.1⟩, fun I sz hD hs => ?_, fun I J tp hD hs => ?_⟩
      · obtain ⟨I1, sz1, e1, d1, z1, f1⟩ := hc I sz hD hs
        obtain ⟨I2, e2, g1, g2, g3⟩ := jc_ref d1.1 1
        have c59 : zT_isSign (59 : Int32) I1 = some 0 := (jc_isSign d1.1 (c := 59) (by decide)).trans (by rw [s59]; rfl)
        have e2 : ((zR_refuse (1 : Int32) I1).bind fun q => if q.1 = 0 ∨ q.1 = 1 then some (q.1, q.2) else none) = some (0, I2) := e2
        refine ⟨I2, ?_, g1, g2, frC_tr f1 fun k j q => g3 k j (by omega)⟩
        rw [e1]
        unfold zR_passLineEnd
        rw [c59, Option.bind_some, if_neg (fun h => h rfl), e2]
        rfl
      · obtain ⟨I1, J1, tp1, e1, d1, z1, f1, j1⟩ := hm I J tp hD hs
        obtain ⟨I2, e2, b2, ⟨g1, g2, g3, g4⟩, -⟩ := jm_fl (J := J1) d1.1 d1.2.1 (kd := 1) (by decide) (by decide)
        have c59 : zM_isSign (59 : Int32) I1 = some 0 := (jm_isSign d1.1 (c := 59) (by decide)).trans (by rw [s59]; rfl)
        have e2 : zM_wrong (1 : Int32) I1 = some I2 := e2
        refine ⟨(I2, J1), ?_, g1, g2, jfz_tr (fun k j h1 _ => f1 k j h1) g3, j1⟩
        rw [e1]
        unfold zM_line_311 zM_need
        rw [c59, Option.bind_some, jm_good d1.2.1, Option.bind_some, if_pos (by decide), if_pos rfl, e2, Option.bind_some, Option.bind_some]
/-- numbers: what stands at p is no number (1), too much (2), or good -/
def nbr (f : Nat → Nat) (n p most : Nat) : Nat := if tt f n p = 2 then (if tz f n p - ta f n p ≤ 4 ∧ tn f n p ≤ most then 0 else 2) else 1
theorem nbr_1 {f : Nat → Nat} {n p most : Nat} (t2 : ¬ tt f n p = 2) : nbr f n p most = 1 := by unfold nbr; rw [if_neg t2]
theorem nbr_2 {f : Nat → Nat} {n p most : Nat} (t2 : tt f n p = 2) (h : ¬ (tz f n p - ta f n p ≤ 4 ∧ tn f n p ≤ most)) : nbr f n p most = 2 := by unfold nbr; rw [if_pos t2, if_neg h]
theorem nbr_0 {f : Nat → Nat} {n p most : Nat} (t2 : tt f n p = 2) (h : tz f n p - ta f n p ≤ 4 ∧ tn f n p ≤ most) : nbr f n p most = 0 := by unfold nbr; rw [if_pos t2, if_pos h]
def tbr (f : Nat → Nat) (n p told : Nat) : Nat := if tt f n p = 2 then (if tz f n p - ta f n p ≤ 4 then (if tn f n p < told then 0 else 3) else 2) else 1
theorem tbr_1 {f : Nat → Nat} {n p told : Nat} (t2 : ¬ tt f n p = 2) : tbr f n p told = 1 := by unfold tbr; rw [if_neg t2]
theorem tbr_2 {f : Nat → Nat} {n p told : Nat} (t2 : tt f n p = 2) (l : ¬ tz f n p - ta f n p ≤ 4) : tbr f n p told = 2 := by unfold tbr; rw [if_pos t2, if_neg l]
theorem tbr_3 {f : Nat → Nat} {n p told : Nat} (t2 : tt f n p = 2) (l : tz f n p - ta f n p ≤ 4) (h : ¬ tn f n p < told) : tbr f n p told = 3 := by unfold tbr; rw [if_pos t2, if_pos l, if_neg h]
theorem tbr_0 {f : Nat → Nat} {n p told : Nat} (t2 : tt f n p = 2) (l : tz f n p - ta f n p ≤ 4) (h : tn f n p < told) : tbr f n p told = 0 := by unfold tbr; rw [if_pos t2, if_pos l, if_pos h]
theorem jc_isNumberTo {I : iq_I} {f : Nat → Nat} {n p : Nat} (h : CL I f n p) (most : Nat) (hm : most < 2147483648) : (nbr f n p most = 0 ∧ tt f n p = 2 ∧ tz f n p - ta f n p ≤ 4 ∧ tn f n p ≤ most ∧ zR_isNumberTo (jn most) I = some (1, I) ∧ zT_number I = some (jn (tn f n p))) ∨ (0 < nbr f n p most ∧ nbr f n p most < 10 ∧ ∃ I', zR_isNumberTo (jn most) I = some (0, I') ∧ I' 61 1 = jn (nbr f n p most) ∧ I' 61 0 = jn (ta f n p) ∧ (∀ a j, ¬ a = 61 → I' a j = I a j)) := by
  have hn := h.1.1
  have tz1 := tz_sp (f := f) h.2.1
  have t4 := tt_le (f := f) (n := n) (p := p)
  have r2 : ∀ I', wrp (zR_refuse (2 : Int32) I) = some (0, I') → zR_isNumberTo_39 I = some (0, I') := fun I' e => e
  by_cases t2 : tt f n p = 2
  · by_cases l : tz f n p - ta f n p ≤ 4
    · have tl := tn_lt h.2.1 t2 l
      by_cases e : tn f n p ≤ most
      · refine Or.inl ⟨nbr_0 t2 ⟨l, e⟩, t2, l, e, ?_, jc_number h t2 l⟩
        unfold zR_isNumberTo zT_size
        rw [h.2.2.1, h.2.2.2.1, h.2.2.2.2.2, if_pos (by rw [t2]; rfl), Option.bind_some, jn_sub tz1.1, if_neg (by rw [jl4, jn_lt (by omega) (by omega)]; omega), jc_number h t2 l, Option.bind_some, if_pos (by rw [jn_le (by omega) (by omega)]; exact e)]
      · obtain ⟨I', e1, g1, g2, g3⟩ := jc_ref h 2
        rw [nbr_2 t2 (fun q => e q.2)]
        refine Or.inr ⟨by decide, by decide, I', ?_, g1, g2, g3⟩
        unfold zR_isNumberTo zT_size
        rw [h.2.2.1, h.2.2.2.1, h.2.2.2.2.2, if_pos (by rw [t2]; rfl), Option.bind_some, jn_sub tz1.1, if_neg (by rw [jl4, jn_lt (by omega) (by omega)]; omega), jc_number h t2 l, Option.bind_some, if_neg (by rw [jn_le (by omega) (by omega)]; exact e)]
        exact r2 I' e1
    · obtain ⟨I', e1, g1, g2, g3⟩ := jc_ref h 2
      rw [nbr_2 t2 (fun q => l q.1)]
      refine Or.inr ⟨by decide, by decide, I', ?_, g1, g2, g3⟩
      unfold zR_isNumberTo zT_size
      rw [h.2.2.1, h.2.2.2.1, h.2.2.2.2.2, if_pos (by rw [t2]; rfl), Option.bind_some, jn_sub tz1.1, if_pos (by rw [jl4, jn_lt (by omega) (by omega)]; omega)]
      exact r2 I' e1
  · obtain ⟨I', e1, g1, g2, g3⟩ := jc_ref h 1
    rw [nbr_1 t2]
    refine Or.inr ⟨by decide, by decide, I', ?_, g1, g2, g3⟩
    unfold zR_isNumberTo
    rw [h.2.2.1, if_neg (by rw [jl2, jn_inj (by omega) (by omega)]; exact t2)]
    exact e1
theorem jc_isTold {I : iq_I} {f : Nat → Nat} {n p : Nat} (h : CL I f n p) (told : Nat) (hm : told < 2147483648) : (tbr f n p told = 0 ∧ tt f n p = 2 ∧ tz f n p - ta f n p ≤ 4 ∧ tn f n p < told ∧ zR_isToldNumber (jn told) I = some (1, I) ∧ zT_number I = some (jn (tn f n p))) ∨ (0 < tbr f n p told ∧ tbr f n p told < 10 ∧ ∃ I', zR_isToldNumber (jn told) I = some (0, I') ∧ I' 61 1 = jn (tbr f n p told) ∧ I' 61 0 = jn (ta f n p) ∧ (∀ a j, ¬ a = 61 → I' a j = I a j)) := by
  rcases jc_isNumberTo h 9999 (by decide) with ⟨z, t2, l, q, e1, e2⟩ | ⟨b1, b2, I', e3, g1, g2, g3⟩
  · have e1 : zR_isNumberTo (9999 : Int32) I = some (1, I) := e1
    have tl := tn_lt h.2.1 t2 l
    by_cases lt : tn f n p < told
    · refine Or.inl ⟨tbr_0 t2 l lt, t2, l, lt, ?_, e2⟩
      unfold zR_isToldNumber
      rw [e1, Option.bind_some, if_pos (show ¬ (1 : Int32) = 0 by decide)]
      dsimp only
      rw [e2, Option.bind_some, if_pos (by rw [jn_lt (by omega) (by omega)]; exact lt)]
    · obtain ⟨I', e3, g1, g2, g3⟩ := jc_refuse h (jn 3)
      have e3 : zR_refuse (3 : Int32) I = some (0, I') := e3
      rw [tbr_3 t2 l lt]
      refine Or.inr ⟨by decide, by decide, I', ?_, g1, g2, g3⟩
      unfold zR_isToldNumber
      rw [e1, Option.bind_some, if_pos (show ¬ (1 : Int32) = 0 by decide)]
      dsimp only
      rw [e2, Option.bind_some, if_neg (by rw [jn_lt (by omega) (by omega)]; exact lt), e3, Option.bind_some, if_pos rfl]
  · have e3 : zR_isNumberTo (9999 : Int32) I = some (0, I') := e3
    have ev : nbr f n p 9999 = tbr f n p told := by
      by_cases t2 : tt f n p = 2
      · by_cases l : tz f n p - ta f n p ≤ 4
        · have tl := tn_lt h.2.1 t2 l
          rw [nbr_0 t2 ⟨l, by omega⟩] at b1
          omega
        · rw [nbr_2 t2 (fun q => l q.1), tbr_2 t2 l]
      · rw [nbr_1 t2, tbr_1 t2]
    rw [ev] at b1 b2 g1
    refine Or.inr ⟨b1, b2, I', ?_, g1, g2, g3⟩
    unfold zR_isToldNumber
    rw [e3, Option.bind_some, if_neg (fun h => h rfl)]
theorem jm_numberHere {I : iq_I} {J : iq_J} {f : Nat → Nat} {n p : Nat} (h : ML I J f n p) (hg : I 76 18 = 0) (most : Nat) (hm : most < 2147483648) : (nbr f n p most = 0 → zM_numberHere (0 : Int32) (jn most) I = some (1, I) ∧ I 76 26 = jn (tn f n p)) ∧ (0 < nbr f n p most → ∃ I2, zM_numberHere (0 : Int32) (jn most) I = some (0, I2) ∧ (¬ I2 76 18 = 0) ∧ Flt (nbr f n p most) (ta f n p) I J (I2, J) ∧ (∀ k j, ¬ (k = 76 ∧ (j = 18 ∨ j = 19)) → I2 k j = I k j)) := by
  have hn := h.1.1
  have tz1 := tz_sp (f := f) h.2.1
  have t4 := tt_le (f := f) (n := n) (p := p)
  have good : zM_numberHere_54 I = some (1, I) := by
    unfold zM_numberHere_54
    rw [jm_good hg, Option.bind_some, if_pos (Or.inr rfl)]
  have bad : ∀ kd, 0 < kd → kd < 10 → ∃ I2, ((zM_wrong (jn kd) I).bind fun q => zM_numberHere_54 q) = some (0, I2) ∧ (¬ I2 76 18 = 0) ∧ Flt kd (ta f n p) I J (I2, J) ∧ (∀ k j, ¬ (k = 76 ∧ (j = 18 ∨ j = 19)) → I2 k j = I k j) := fun kd h1 h2 => by
    obtain ⟨I2, e2, b2, g2, fr⟩ := jm_fl (J := J) h hg h1 h2
    refine ⟨I2, ?_, b2, g2, fr⟩
    rw [e2, Option.bind_some]
    unfold zM_numberHere_54
    rw [jm_bad b2, Option.bind_some, if_pos (Or.inl rfl)]
  by_cases t2 : tt f n p = 2
  · by_cases l : tz f n p - ta f n p ≤ 4
    · have tl := tn_lt h.2.1 t2 l
      by_cases e : tn f n p ≤ most
      · rw [nbr_0 t2 ⟨l, e⟩]
        refine ⟨fun _ => ⟨?_, jm_value h t2 l⟩, fun h => absurd h (by decide)⟩
        unfold zM_numberHere
        rw [jm_good hg, Option.bind_some, if_pos (by decide), h.2.2.2.2.1, h.2.2.2.2.2.2.1, if_pos (by rw [t2]; rfl), if_neg (by rw [jl4, jn_lt (by omega) (by omega)]; omega), jm_value h t2 l, if_neg (by rw [jl0, jn_lt (by omega) (by omega)]; omega), if_pos (by rw [jn_le (by omega) (by omega)]; exact e), good]
      · rw [nbr_2 t2 (fun q => e q.2)]
        refine ⟨fun h => absurd h (by decide), fun _ => ?_⟩
        obtain ⟨I2, e2, r⟩ := bad 2 (by decide) (by decide)
        refine ⟨I2, ?_, r⟩
        unfold zM_numberHere zM_numberHere_49
        rw [jm_good hg, Option.bind_some, if_pos (by decide), h.2.2.2.2.1, h.2.2.2.2.2.2.1, if_pos (by rw [t2]; rfl), if_neg (by rw [jl4, jn_lt (by omega) (by omega)]; omega), jm_value h t2 l, if_neg (by rw [jl0, jn_lt (by omega) (by omega)]; omega), if_neg (by rw [jn_le (by omega) (by omega)]; exact e)]
        exact e2
    · rw [nbr_2 t2 (fun q => l q.1)]
      refine ⟨fun h => absurd h (by decide), fun _ => ?_⟩
      obtain ⟨I2, e2, r⟩ := bad 2 (by decide) (by decide)
      refine ⟨I2, ?_, r⟩
      unfold zM_numberHere zM_numberHere_49
      rw [jm_good hg, Option.bind_some, if_pos (by decide), h.2.2.2.2.1, h.2.2.2.2.2.2.1, if_pos (by rw [t2]; rfl), if_pos (by rw [jl4, jn_lt (by omega) (by omega)]; omega)]
      exact e2
  · rw [nbr_1 t2]
    refine ⟨fun h => absurd h (by decide), fun _ => ?_⟩
    obtain ⟨I2, e2, r⟩ := bad 1 (by decide) (by decide)
    refine ⟨I2, ?_, r⟩
    unfold zM_numberHere
    rw [jm_good hg, Option.bind_some, if_pos (by decide), h.2.2.2.2.1, if_neg (by rw [jl2, jn_inj (by omega) (by omega)]; exact t2)]
    exact e2
theorem jm_oneHere {I : iq_I} {J : iq_J} {f : Nat → Nat} {n p : Nat} (h : ML I J f n p) (hg : I 76 18 = 0) (told : Nat) (hm : told < 2147483648) : (tbr f n p told = 0 → zM_oneHere (jn told) I = some (jn (tn f n p), I)) ∧ (0 < tbr f n p told → ∃ I2, zM_oneHere (jn told) I = some (0, I2) ∧ (¬ I2 76 18 = 0) ∧ Flt (tbr f n p told) (ta f n p) I J (I2, J) ∧ (∀ k j, ¬ (k = 76 ∧ (j = 18 ∨ j = 19)) → I2 k j = I k j)) := by
  have hn := h.1.1
  have tz1 := tz_sp (f := f) h.2.1
  have t4 := tt_le (f := f) (n := n) (p := p)
  have bad : ∀ kd, 0 < kd → kd < 10 → ∃ I2, ((zM_wrong (jn kd) I).bind fun q => zM_oneHere_54 q) = some (0, I2) ∧ (¬ I2 76 18 = 0) ∧ Flt kd (ta f n p) I J (I2, J) ∧ (∀ k j, ¬ (k = 76 ∧ (j = 18 ∨ j = 19)) → I2 k j = I k j) := fun kd h1 h2 => by
    obtain ⟨I2, e2, b2, g2, fr⟩ := jm_fl (J := J) h hg h1 h2
    refine ⟨I2, ?_, b2, g2, fr⟩
    rw [e2, Option.bind_some]
    unfold zM_oneHere_54
    rw [jm_bad b2, Option.bind_some, if_pos rfl]
  by_cases t2 : tt f n p = 2
  · by_cases l : tz f n p - ta f n p ≤ 4
    · have tl := tn_lt h.2.1 t2 l
      by_cases e : tn f n p < told
      · rw [tbr_0 t2 l e]
        refine ⟨fun _ => ?_, fun h => absurd h (by decide)⟩
        unfold zM_oneHere zM_oneHere_54
        rw [jm_good hg, Option.bind_some, if_pos (by decide), h.2.2.2.2.1, h.2.2.2.2.2.2.1, if_pos (by rw [t2]; rfl), if_pos (by rw [jl4, jn_le (by omega) (by omega)]; exact l), jm_value h t2 l, if_pos (by rw [jn_lt (by omega) (by omega)]; exact e), Option.bind_some, if_neg (by decide)]
      · rw [tbr_3 t2 l e]
        refine ⟨fun h => absurd h (by decide), fun _ => ?_⟩
        obtain ⟨I2, e2, r⟩ := bad 3 (by decide) (by decide)
        refine ⟨I2, ?_, r⟩
        unfold zM_oneHere
        rw [jm_good hg, Option.bind_some, if_pos (by decide), h.2.2.2.2.1, h.2.2.2.2.2.2.1, if_pos (by rw [t2]; rfl), if_pos (by rw [jl4, jn_le (by omega) (by omega)]; exact l), jm_value h t2 l, if_neg (by rw [jn_lt (by omega) (by omega)]; exact e)]
        exact e2
    · rw [tbr_2 t2 l]
      refine ⟨fun h => absurd h (by decide), fun _ => ?_⟩
      obtain ⟨I2, e2, r⟩ := bad 2 (by decide) (by decide)
      refine ⟨I2, ?_, r⟩
      unfold zM_oneHere
      rw [jm_good hg, Option.bind_some, if_pos (by decide), h.2.2.2.2.1, h.2.2.2.2.2.2.1, if_pos (by rw [t2]; rfl), if_neg (by rw [jl4, jn_le (by omega) (by omega)]; exact l)]
      exact e2
  · rw [tbr_1 t2]
    refine ⟨fun h => absurd h (by decide), fun _ => ?_⟩
    obtain ⟨I2, e2, r⟩ := bad 1 (by decide) (by decide)
    refine ⟨I2, ?_, r⟩
    unfold zM_oneHere
    rw [jm_good hg, Option.bind_some, if_pos (by decide), h.2.2.2.2.1, if_neg (by rw [jl2, jn_inj (by omega) (by omega)]; exact t2)]
    exact e2
