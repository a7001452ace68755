/-! ===== lines: state, cost ===== -/
def mSt1 (m : jMu) (e : Bool) : jMu := (mS m + 1, mW m, mA m, (fun s => if s = mS m then e else mE m s), mL m, mK m, mT m, mR m, mP m, mV m, mH m, mC m)
theorem jb_st {m : jMu} {e : Bool} : jb (mS m) (mE m) = jb (mS m) (mE (mSt1 m e)) := jb_ext fun j hj => by
  show _ = (if j = mS m then e else mE m j)
  rw [if_neg (by omega)]
theorem jb_st1 {m : jMu} : jb (mS m) (mE m) ||| ((1 : Int32) <<< (jn (mS m) &&& 31)) = jb (mS (mSt1 m true)) (mE (mSt1 m true)) := by
  rw [jb_st (e := true)]
  exact jbS1 (show (if mS m = mS m then true else mE m (mS m)) = true by rw [if_pos rfl])
theorem jb_st0 {m : jMu} : jb (mS m) (mE m) = jb (mS (mSt1 m false)) (mE (mSt1 m false)) := by
  rw [jb_st (e := false)]
  exact (jbS0 (show (if mS m = mS m then false else mE m (mS m)) = false by rw [if_pos rfl])).symm
theorem dOk_st {m : jMu} {g : jGa} {e : Bool} (h : dOk m g) (hS : mS m < 10) : dOk (mSt1 m e) g := by
  obtain ⟨⟨a1, a2, a3, a4, a5, a6, a7, a8⟩, ⟨b1, b2, b3, b4, b5⟩, c, d, A⟩ := h
  refine ⟨⟨hS, a2, a3, fun s k t hs hk ht => ?_, a5, a6, a7, a8⟩, ⟨b1, fun s hs => Nat.lt_succ_of_lt (b2 s hs), b3, b4, b5⟩, c, fun s k h1 h2 => d s k (Nat.le_of_succ_le h1) h2, A⟩
  show t < mS m + 1
  by_cases q : s < mS m
  · exact Nat.lt_succ_of_lt (a4 s k t q hk ht)
  · have hs' : s < mS m + 1 := hs
    have : mR m s k = none := d s k (by omega) (by omega)
    have ht' : mR m s k = some t := ht
    rw [this] at ht'
    cases ht'
theorem jc_putState {I : iq_I} {f : Nat → Nat} {n q : Nat} {m : jMu} {C : Nat → Bool} {g : jGa} {sz : Nat} (h : DC I f n q m C g sz) (hS : mS m < 10) (e : Bool) : ∃ I', zU_putState (jB e) I = some I' ∧ DC I' f n q (mSt1 m e) C g sz ∧ frC I I' := by
  obtain ⟨hC, hU, hG⟩ := h
  obtain ⟨h1, h2, h3, h4, h5, h6, h7, h8, h9, h10, h11, h12, h13, h14, h15, h16, h17⟩ := hU
  have S1 : jn (mS m) + (1 : Int32) = jn (mS m + 1) := jn_add _ 1
  have mk : ∀ I' : iq_I, (∀ k j, ¬ (k = 38 ∧ (j = 0 ∨ j = 1)) → I' k j = I k j) → I' 38 0 = jn (mS m + 1) → I' 38 1 = jb (mS (mSt1 m e)) (mE (mSt1 m e)) → DC I' f n q (mSt1 m e) C g sz := fun I' fr e0 e1 => by
    have r : ∀ r c, jRuS I r c sz → jRuS I' r c sz := fun r c ⟨x, q1, q2, q3, q4⟩ => ⟨x, by rw [fr _ _ (by omega), q1], by rw [fr _ _ (by omega), q2], q3, fun i hi => by rw [fr _ _ (by omega), q4 i hi]⟩
    exact ⟨CL_f hC (fun j => fr _ _ (by omega)) (fun j => fr _ _ (by omega)), ⟨e0, e1, by rw [fr _ _ (by omega)]; exact h3, by rw [fr _ _ (by omega)]; exact h4, by rw [fr _ _ (by omega)]; exact h5, by rw [fr _ _ (by omega)]; exact h6, fun w hw => by rw [fr _ _ (by omega)]; exact h7 w hw, fun w hw => by rw [fr _ _ (by omega)]; exact h8 w hw, fun k hk => by rw [fr _ _ (by omega)]; exact h9 k hk, fun w i hw hi => by rw [fr _ _ (by omega)]; exact h10 w i hw hi, fun s k hs hk => by rw [fr _ _ (by omega)]; exact h11 s k hs hk, fun k hk => by rw [fr _ _ (by omega)]; exact h12 k hk, by rw [fr _ _ (by omega)]; exact h13, by rw [fr _ _ (by omega)]; exact h14, fun v hv => r _ _ (h15 v hv), fun c hc => r _ _ (h16 c hc), by rw [fr _ _ (by omega)]; exact h17⟩, dG_f hG fun k j q => fr k j (by omega)⟩
  unfold zU_putState
  rw [h1, if_neg (by rw [jl10, jn_le (by omega) (by omega)]; omega), S1]
  cases e with
  | false =>
    rw [if_pos (show jB false = 0 from rfl), ir_let]
    refine ⟨_, rfl, mk _ (fun k j q => ?_) up_eq (by rw [up_ni (by decide), h2, jb_st0]), frC_up (frC_rf I) (by omega)⟩
    by_cases c : k = 38
    · subst c; rw [up_ni (by omega)]
    · rw [up_nk c]
  | true =>
    rw [if_neg (by decide), h2, jb_st1, ir_let, up_ni (by decide), h1, S1, ir_let]
    refine ⟨_, rfl, mk _ (fun k j q => ?_) up_eq (by rw [up_ni (by decide), up_eq]), frC_up (frC_up (frC_rf I) (by omega)) (by omega)⟩
    by_cases c : k = 38
    · subst c; rw [up_ni (by omega), up_ni (by omega)]
    · rw [up_nk c, up_nk c]
def fmSt (I : iq_I) (J : iq_J) : Option (iq_I × iq_J) := if ¬ (I 76 29) = (10 : Int32) then zM_line_25 I J else (zM_wrong (2 : Int32) I).bind fun q33 => zM_line_25 q33 J
theorem lnState {f : Nat → Nat} {n p : Nat} {m : jMu} {C : Nat → Bool} {g : jGa} (hp : p ≤ n) (hd : dOk m g) (hk : kw f n p = some 7) : ∃ o, LStL n p o ∧ LpC zR_readState f n p m C g o ∧ LpM fmSt f n p m C g o := by
  have ta1 := ta_sp (f := f) hp
  have tz1 := tz_sp (f := f) hp
  have tz3 := tz1.2.2.1 (by rw [(kw_lt hk).2]; decide)
  have h10 := hd.1.1
  by_cases hS : mS m < 10
  · have hS10 : ¬ jn (mS m) = (10 : Int32) := by rw [jl10, jn_inj (by omega) (by omega)]; omega
    have tz2 := tz_sp (f := f) tz1.2.1
    have ta2 := ta_sp (f := f) tz1.2.1
    -- the reference's last step
    have fin : ∀ (I : iq_I) (J : iq_J) (q tp : Nat) (e : Bool), ML I J f n q → I 76 18 = 0 → (∀ j, 29 ≤ j → j ≤ 37 → ¬ j = 35 → True) → dN (iq_upI I 76 35 (jb (mS m) (mE m))) m C tp → dR I g → I 76 35 = jb (mS (mSt1 m e)) (mE (mSt1 m e)) → DM (iq_upI I 76 29 (jn (mS m + 1))) J f n q (mSt1 m e) C g tp := fun I J q tp e hM hg _ hN hR e35 => by
      have fr : ∀ k j, ¬ (k = 76 ∧ j = 29) → iq_upI I 76 29 (jn (mS m + 1)) k j = I k j := fun k j c => by
        by_cases c2 : k = 76
        · subst c2; rw [up_ni (by omega)]
        · rw [up_nk c2]
      have fo : ∀ k j, ¬ (k = 76 ∧ j = 35) → iq_upI I 76 35 (jb (mS m) (mE m)) k j = I k j := fun k j c => by
        by_cases c2 : k = 76
        · subst c2; rw [up_ni (by omega)]
        · rw [up_nk c2]
      obtain ⟨h1, h2, h3, h4, h5, h6, h7, h8, h9, h10, h11, h12, h13, h14, h15⟩ := hN
      refine ⟨ML_f hM (fun j => fr _ _ (by omega)) (fun j _ _ => fr _ _ (by omega)) rfl, by rw [fr _ _ (by omega), hg], ⟨up_eq, by rw [fr _ _ (by omega), e35], ?_, ?_, ?_, fun w hw => ?_, fun w hw => ?_, fun w i hw hi => ?_, fun s k hs hk => ?_, fun k hk => ?_, ?_, fun v hv => ?_, fun c => ?_, fun c hc => ?_, ?_⟩, dR_f hR (fr _ _ (by omega)) (fun k j c => fr _ _ (by omega))⟩
      · rw [fr _ _ (by omega), ← fo _ _ (by omega)]; exact h3
      · rw [fr _ _ (by omega), ← fo _ _ (by omega)]; exact h4
      · rw [fr _ _ (by omega), ← fo _ _ (by omega)]; exact h5
      · rw [fr _ _ (by omega), ← fo _ _ (by omega)]; exact h6 w hw
      · rw [fr _ _ (by omega), ← fo _ _ (by omega)]; exact h7 w hw
      · rw [fr _ _ (by omega), ← fo _ _ (by omega)]; exact h8 w i hw hi
      · rw [fr _ _ (by omega), ← fo _ _ (by omega)]; exact h9 s k hs hk
      · rw [fr _ _ (by omega), ← fo _ _ (by omega)]; exact h10 k hk
      · rw [fr _ _ (by omega), ← fo _ _ (by omega)]; exact h11
      · obtain ⟨x, q1, q2, q3⟩ := h12 v hv
        exact ⟨x, by rw [fr _ _ (by omega), ← fo _ _ (by omega)]; exact q1, q2, fun i hi => by rw [fr _ _ (by omega), ← fo _ _ (by omega)]; exact q3 i hi⟩
      · rw [fr _ _ (by omega), ← fo _ _ (by omega)]; exact h13 c
      · obtain ⟨x, q1, q2, q3⟩ := h14 c hc
        exact ⟨x, by rw [fr _ _ (by omega), ← fo _ _ (by omega)]; exact q1, q2, fun i hi => by rw [fr _ _ (by omega), ← fo _ _ (by omega)]; exact q3 i hi⟩
      · rw [fr _ _ (by omega), ← fo _ _ (by omega)]; exact h15
    have up35 : ∀ (I : iq_I) (v : Int32), (∀ k j, ¬ (k = 76 ∧ j = 35) → iq_upI I 76 35 v k j = I k j) := fun I v k j c => by
      by_cases c2 : k = 76
      · subst c2; rw [up_ni (by omega)]
      · rw [up_nk c2]
    have S1 : jn (mS m) + (1 : Int32) = jn (mS m + 1) := jn_add _ 1
    by_cases k8 : kw f n (tz f n p) = some 8
    · have tz4 := tz2.2.2.1 (by rw [(kw_lt k8).2]; decide)
      refine ⟨.inr (mSt1 m true, C, g, tz f n (tz f n p)), ⟨dOk_st hd hS, by omega, tz2.2.1⟩, fun I sz hD hs => ?_, fun I J tp hD hs => ?_⟩
      · obtain ⟨I1, e1, d1, f1⟩ := DC_next hD
        obtain ⟨I2, e2, d2, f2⟩ := DC_next d1
        obtain ⟨I3, e3, d3, f3⟩ := jc_putState d2 hS true
        refine ⟨I3, sz, ?_, d3, by omega, frC_tr f1 (frC_tr f2 f3)⟩
        have w : zT_isWord_62_5003 I1 = some (jB true) := (jc_isW_5003 d1.1).trans (by rw [decide_eq_true k8])
        unfold zR_readState zR_readState_46
        rw [hD.2.1.1, if_pos (by rw [jl10, jn_lt (by omega) (by omega)]; exact hS), e1, Option.bind_some, w, Option.bind_some, if_neg (by decide), e2, Option.bind_some, e3, Option.bind_some]
        rfl
      · obtain ⟨I1, J1, e1, d1, f1, j1⟩ := DM_next hD
        have s29 : I1 76 29 = jn (mS m) := d1.2.2.1.1
        have s35 : I1 76 35 = jb (mS m) (mE m) := d1.2.2.1.2.1
        have v35 : (I1 76 35 ||| ((1 : Int32) <<< (I1 76 29 &&& 31))) = jb (mS (mSt1 m true)) (mE (mSt1 m true)) := by rw [s29, s35]; exact jb_st1
        have u := up35 I1 (jb (mS (mSt1 m true)) (mE (mSt1 m true)))
        have m1 : ML (iq_upI I1 76 35 (jb (mS (mSt1 m true)) (mE (mSt1 m true)))) J1 f n (tz f n p) := ML_f d1.1 (fun j => u _ _ (by omega)) (fun j _ _ => u _ _ (by omega)) rfl
        obtain ⟨I2, J2, e2, m2, g2, j2⟩ := ML_next m1
        have c2 : ∀ k j, ¬ (k = 76 ∧ (j = 35 ∨ (22 ≤ j ∧ j ≤ 27))) → I2 k j = I1 k j := fun k j c => by rw [g2 k j (by omega), u k j (by omega)]
        refine ⟨iq_upI I2 76 29 (jn (mS m + 1)), J2, tp, ?_, fin I2 J2 _ tp true m2 (by rw [c2 _ _ (by omega), d1.2.1]) (fun _ _ _ _ => trivial) (dN_f d1.2.2.1 (fun j q1 q2 => ?_) (fun k j q => by rw [up_nk (by omega), c2 _ _ (by omega)])) (dR_f d1.2.2.2 (c2 _ _ (by omega)) (fun k j q => c2 _ _ (by omega))) (by rw [g2 _ _ (by omega), up_eq]), by omega, jgm_tr f1 (jgm_up (jgm_tr (jgm_up (jgm_rf I1) rfl) (jgm_go g2)) rfl), fun k j q => by rw [j2 k j q, j1 k j q]⟩
        · unfold fmSt zM_line_25 zM_line_65
          have kk : zM_knownWord I1 J1 = some 8 := (jm_knownWord d1.1).trans (by rw [k8]; rfl)
          rw [hD.2.2.1.1, if_pos hS10, jm_good hD.2.1, Option.bind_some, if_pos (by decide), e1, Option.bind_some]
          dsimp only
          rw [kk, Option.bind_some, if_neg (fun h => h rfl), v35, ir_let, e2, Option.bind_some]
          dsimp only
          rw [c2 76 29 (by omega), s29, S1, ir_let]
        · by_cases c : j = 35
          · subst c; rw [up_eq, s35]
          · rw [up_ni c, c2 _ _ (by omega)]
    · refine ⟨.inr (mSt1 m false, C, g, tz f n p), ⟨dOk_st hd hS, by omega, tz1.2.1⟩, fun I sz hD hs => ?_, fun I J tp hD hs => ?_⟩
      · obtain ⟨I1, e1, d1, f1⟩ := DC_next hD
        obtain ⟨I3, e3, d3, f3⟩ := jc_putState d1 hS false
        refine ⟨I3, sz, ?_, d3, by omega, frC_tr f1 f3⟩
        have w : zT_isWord_62_5003 I1 = some (jB false) := (jc_isW_5003 d1.1).trans (by rw [decide_eq_false k8])
        unfold zR_readState zR_readState_46
        rw [hD.2.1.1, if_pos (by rw [jl10, jn_lt (by omega) (by omega)]; exact hS), e1, Option.bind_some, w, Option.bind_some, if_pos (show jB false = 0 from rfl), e3, Option.bind_some]
        rfl
      · obtain ⟨I1, J1, e1, d1, f1, j1⟩ := DM_next hD
        have s29 : I1 76 29 = jn (mS m) := d1.2.2.1.1
        have s35 : I1 76 35 = jb (mS m) (mE m) := d1.2.2.1.2.1
        refine ⟨iq_upI I1 76 29 (jn (mS m + 1)), J1, tp, ?_, fin I1 J1 _ tp false d1.1 d1.2.1 (fun _ _ _ _ => trivial) (dN_f d1.2.2.1 (fun j q1 q2 => ?_) (fun k j q => by rw [up_nk (by omega)])) d1.2.2.2 (by rw [s35, jb_st0]), by omega, jgm_up f1 rfl, j1⟩
        · unfold fmSt zM_line_25 zM_line_65
          have kk : ¬ jo (kw f n (tz f n p)) = 8 := by
            cases q : kw f n (tz f n p) with
            | none => decide
            | some c => have := (kw_lt q).1; rw [jo_some, jl8, jn_inj (by omega) (by omega)]; intro h; subst h; exact k8 q
          rw [hD.2.2.1.1, if_pos hS10, jm_good hD.2.1, Option.bind_some, if_pos (by decide), e1, Option.bind_some]
          dsimp only
          rw [jm_knownWord d1.1, Option.bind_some, if_pos kk, s29, S1, ir_let]
        · by_cases c : j = 35
          · subst c; rw [up_eq, s35]
          · rw [up_ni c]
  · have S10 : mS m = 10 := by omega
    refine ⟨.inl (2, ta f n p), ⟨by decide, by decide, ta1.2.1⟩, fun I sz hD hs => ?_, fun I J tp hD hs => ?_⟩
    · obtain ⟨I1, e1, g1, g2, g3⟩ := jc_ref hD.1 2
      refine ⟨I1, ?_, g1, g2, fun k j q => g3 k j (by omega)⟩
      unfold zR_readState
      rw [hD.2.1.1, S10, if_neg (by decide)]
      exact e1
    · obtain ⟨I2, e2, b2, g2, -⟩ := jm_fl (J := J) hD.1 hD.2.1 (kd := 2) (by decide) (by decide)
      have e2 : zM_wrong (2 : Int32) I = some I2 := e2
      refine ⟨(I2, J), ?_, g2⟩
      unfold fmSt zM_line_25
      rw [hD.2.2.1.1, S10, if_neg (fun h => h rfl), e2, Option.bind_some, jm_bad b2, Option.bind_some, if_neg (fun h => h rfl)]
