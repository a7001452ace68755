/-! ===== lines: cost, arc ===== -/
theorem nbr_10 {f : Nat → Nat} {n p most : Nat} : nbr f n p most < 10 := by
  by_cases t2 : tt f n p = 2
  · by_cases h : tz f n p - ta f n p ≤ 4 ∧ tn f n p ≤ most
    · rw [nbr_0 t2 h]; decide
    · rw [nbr_2 t2 h]; decide
  · rw [nbr_1 t2]; decide
theorem tbr_10 {f : Nat → Nat} {n p told : Nat} : tbr f n p told < 10 := by
  by_cases t2 : tt f n p = 2
  · by_cases l : tz f n p - ta f n p ≤ 4
    · by_cases h : tn f n p < told
      · rw [tbr_0 t2 l h]; decide
      · rw [tbr_3 t2 l h]; decide
    · rw [tbr_2 t2 l]; decide
  · rw [tbr_1 t2]; decide
theorem jm_numberD {I : iq_I} {J : iq_J} {f : Nat → Nat} {n p : Nat} {m : jMu} {C : Nat → Bool} {g : jGa} {tp : Nat} (h : DM I J f n p m C g tp) (most : Nat) (hm : most < 2147483648) :
    (nbr f n p most = 0 → ∃ I' J', zM_number (0 : Int32) (jn most) I J = some (jn (tn f n p), I', J') ∧ DM I' J' f n (tz f n p) m C g tp ∧ jgo I I' ∧ (∀ k j, ¬ k = 76 → J' k j = J k j)) ∧ (0 < nbr f n p most → ∃ I2, zM_number (0 : Int32) (jn most) I J = some (0, I2, J) ∧ (¬ I2 76 18 = 0) ∧ Flt (nbr f n p most) (ta f n p) I J (I2, J)) := by
  obtain ⟨a, b⟩ := jm_numberHere h.1 h.2.1 most hm
  refine ⟨fun z => ?_, fun z => ?_⟩
  · obtain ⟨e1, e2⟩ := a z
    obtain ⟨h1, h2, h3, h4⟩ := h
    obtain ⟨I', J', e, c, go, jf⟩ := ML_next h1
    refine ⟨I', J', ?_, ⟨c, by rw [go _ _ (by omega), h2], dN_f h3 (fun j q1 q2 => go _ _ (by omega)) (fun k j q => go _ _ (by omega)), dR_f h4 (go _ _ (by omega)) (fun k j q => go _ _ (by omega))⟩, go, jf⟩
    unfold zM_number zM_number_17
    rw [e1, Option.bind_some, if_neg (show ¬ (1 : Int32) = 0 by decide)]
    dsimp only
    rw [jm_good h2, Option.bind_some, if_neg (by decide), e, Option.bind_some, e2]
  · obtain ⟨I2, e1, b1, fl, -⟩ := b z
    refine ⟨I2, ?_, b1, fl⟩
    unfold zM_number zM_number_17
    rw [e1, Option.bind_some, if_pos rfl]
    dsimp only
    rw [jm_bad b1, Option.bind_some, if_pos rfl]
theorem jm_oneD {I : iq_I} {J : iq_J} {f : Nat → Nat} {n p : Nat} {m : jMu} {C : Nat → Bool} {g : jGa} {tp : Nat} (h : DM I J f n p m C g tp) (told : Nat) (hm : told < 2147483648) :
    (tbr f n p told = 0 → ∃ I' J', zM_one (jn told) I J = some (jn (tn f n p), I', J') ∧ DM I' J' f n (tz f n p) m C g tp ∧ jgo I I' ∧ (∀ k j, ¬ k = 76 → J' k j = J k j)) ∧ (0 < tbr f n p told → ∃ I2, zM_one (jn told) I J = some (0, I2, J) ∧ (¬ I2 76 18 = 0) ∧ Flt (tbr f n p told) (ta f n p) I J (I2, J) ∧ (∀ k j, ¬ (k = 76 ∧ (j = 18 ∨ j = 19)) → I2 k j = I k j)) := by
  obtain ⟨a, b⟩ := jm_oneHere h.1 h.2.1 told hm
  refine ⟨fun z => ?_, fun z => ?_⟩
  · have e1 := a z
    obtain ⟨h1, h2, h3, h4⟩ := h
    obtain ⟨I', J', e, c, go, jf⟩ := ML_next h1
    refine ⟨I', J', ?_, ⟨c, by rw [go _ _ (by omega), h2], dN_f h3 (fun j q1 q2 => go _ _ (by omega)) (fun k j q => go _ _ (by omega)), dR_f h4 (go _ _ (by omega)) (fun k j q => go _ _ (by omega))⟩, go, jf⟩
    unfold zM_one
    rw [e1, Option.bind_some]
    dsimp only
    rw [jm_good h2, Option.bind_some, if_neg (by decide), e, Option.bind_some]
  · obtain ⟨I2, e1, b1, fl, fr⟩ := b z
    refine ⟨I2, ?_, b1, fl, fr⟩
    unfold zM_one
    rw [e1, Option.bind_some]
    dsimp only
    rw [jm_bad b1, Option.bind_some, if_pos rfl]
theorem Flt_tr {kd pl : Nat} {I I' : iq_I} {J J' : iq_J} {w : iq_I × iq_J} (h : Flt kd pl I' J' w) (a : jgm I I') (b : ∀ k j, ¬ k = 76 → J' k j = J k j) : Flt kd pl I J w :=
  ⟨h.1, h.2.1, jfz_tr (fun k j h1 _ => a k j h1) h.2.2.1, fun k j q => by rw [h.2.2.2 k j q, b k j q]⟩
def mPr1 (m : jMu) (k v : Nat) : jMu := (mS m, mW m, mA m, mE m, mL m, mK m, mT m, mR m, (fun j => if j = k then v else mP m j), mV m, mH m, mC m)
def cSt (C : Nat → Bool) (k : Nat) : Nat → Bool := fun j => C j || decide (j = k)
theorem jb_c {C : Nat → Bool} {k : Nat} (hk : k < 8) : jb 8 C ||| ((1 : Int32) <<< (jn k &&& 31)) = jb 8 (cSt C k) := by
  rw [jb_one hk (by omega), jb_or (by omega)]; rfl
theorem dOk_pr {m : jMu} {g : jGa} {k v : Nat} (h : dOk m g) (hv : v ≤ 9) : dOk (mPr1 m k v) g := by
  obtain ⟨⟨a1, a2, a3, a4, a5, a6, a7, a8⟩, hg, c, d, A⟩ := h
  refine ⟨⟨a1, a2, a3, a4, fun j hj => ?_, a6, a7, a8⟩, hg, c, d, A⟩
  show (if j = k then v else mP m j) ≤ 9
  by_cases e : j = k
  · rw [if_pos e]; exact hv
  · rw [if_neg e]; exact a5 j hj
theorem jc_putPrice {I : iq_I} {f : Nat → Nat} {n q : Nat} {m : jMu} {C : Nat → Bool} {g : jGa} {sz k v : Nat} (h : DC I f n q m C g sz) (hk : k < 8) : ∃ I', zU_putPrice (jn k) (jn v) I = some I' ∧ DC I' f n q (mPr1 m k v) (cSt C k) g sz ∧ frC I I' := by
  obtain ⟨hC, hU, hG⟩ := h
  obtain ⟨h1, h2, h3, h4, h5, h6, h7, h8, h9, h10, h11, h12, h13, h14, h15, h16, h17⟩ := hU
  have fr : ∀ a j, ¬ (a = 49 ∧ j = k) → ¬ (a = 38 ∧ j = 5) → iq_upI (iq_upI I 49 k (jn v)) 38 5 (jb 8 (cSt C k)) a j = I a j := fun a j q1 q2 => by
    by_cases c : a = 38
    · subst c; rw [up_ni (by omega), up_nk (by decide)]
    · rw [up_nk c]
      by_cases c2 : a = 49
      · subst c2; rw [up_ni (by omega)]
      · rw [up_nk c2]
  refine ⟨iq_upI (iq_upI I 49 k (jn v)) 38 5 (jb 8 (cSt C k)), ?_, ⟨CL_f hC (fun j => fr _ _ (by omega) (by omega)) (fun j => fr _ _ (by omega) (by omega)), ⟨by rw [fr _ _ (by omega) (by omega)]; exact h1, by rw [fr _ _ (by omega) (by omega)]; exact h2, by rw [fr _ _ (by omega) (by omega)]; exact h3, by rw [fr _ _ (by omega) (by omega)]; exact h4, by rw [fr _ _ (by omega) (by omega)]; exact h5, up_eq, fun w hw => by rw [fr _ _ (by omega) (by omega)]; exact h7 w hw, fun w hw => by rw [fr _ _ (by omega) (by omega)]; exact h8 w hw, fun k hk => by rw [fr _ _ (by omega) (by omega)]; exact h9 k hk, fun w i hw hi => by rw [fr _ _ (by omega) (by omega)]; exact h10 w i hw hi, fun s k hs hk => by rw [fr _ _ (by omega) (by omega)]; exact h11 s k hs hk, fun j hj => ?_, by rw [fr _ _ (by omega) (by omega)]; exact h13, by rw [fr _ _ (by omega) (by omega)]; exact h14, fun v hv => ?_, fun c hc => ?_, by rw [fr _ _ (by omega) (by omega)]; exact h17⟩, dG_f hG fun a j c => fr a j (by omega) (by omega)⟩, frC_up (frC_up (frC_rf I) (by omega)) (by omega)⟩
  · unfold zU_putPrice
    rw [if_neg (by rw [jl0, jn_lt (by omega) (by omega)]; omega), if_neg (by rw [jl8, jn_le (by omega) (by omega)]; omega), if_pos (by rw [jn_in (by omega)]; exact hk), jn_clamp (by omega), ir_let, up_nk (by decide), h6, jb_c hk, ir_let]
  · show _ = jn (if j = k then v else mP m j)
    by_cases e : j = k
    · subst e; rw [if_pos rfl, up_nk (by decide), up_eq]
    · rw [if_neg e, fr _ _ (by omega) (by omega)]; exact h12 j hj
  · obtain ⟨x, q1, q2, q3, q4⟩ := h15 v hv
    exact ⟨x, by rw [fr _ _ (by omega) (by omega)]; exact q1, by rw [fr _ _ (by omega) (by omega)]; exact q2, q3, fun i hi => by rw [fr _ _ (by omega) (by omega)]; exact q4 i hi⟩
  · obtain ⟨x, q1, q2, q3, q4⟩ := h16 c hc
    exact ⟨x, by rw [fr _ _ (by omega) (by omega)]; exact q1, by rw [fr _ _ (by omega) (by omega)]; exact q2, q3, fun i hi => by rw [fr _ _ (by omega) (by omega)]; exact q4 i hi⟩
theorem cBit {C : Nat → Bool} {k : Nat} (hk : k < 8) : (((jb 8 C) >>> (jn k &&& 31)) &&& (1 : Int32) = 0) = (C k = false) := by
  rw [jt_bit (by omega), jq_jb hk (by omega)]
theorem cBit1 {C : Nat → Bool} {k : Nat} (hk : k < 8) : (((jb 8 C) >>> (jn k &&& 31)) &&& (1 : Int32) = 1) = (C k = true) := by
  rw [jt_bit1 (by omega), jq_jb hk (by omega)]
def fmCo (I : iq_I) (J : iq_J) : Option (iq_I × iq_J) := (zM_goes I J).bind fun q17 => (zM_numberHere (0 : Int32) (7 : Int32) q17.1).bind fun q18 => if ¬ q18.1 = 0 then (if ¬ (((q18.2 76 36) >>> ((q18.2 76 26) &&& 31)) &&& (1 : Int32)) = (1 : Int32) then zM_line_146 (q18.2 76 26) q18.2 q17.2 else (zM_wrong (4 : Int32) q18.2).bind fun q24 => zM_line_146 (q18.2 76 26) q24 q17.2) else some (q18.2, q17.2)
theorem lnCost {f : Nat → Nat} {n p : Nat} {m : jMu} {C : Nat → Bool} {g : jGa} (hp : p ≤ n) (hd : dOk m g) (hk : kw f n p = some 10) : ∃ o, LStL n p o ∧ LpC zR_readCost f n p m C g o ∧ LpM fmCo f n p m C g o := by
  have ta1 := ta_sp (f := f) hp
  have tz1 := tz_sp (f := f) hp
  have tz3 := tz1.2.2.1 (by rw [(kw_lt hk).2]; decide)
  have taB := ta_sp (f := f) tz1.2.1
  have tzB := tz_sp (f := f) tz1.2.1
  by_cases z1 : nbr f n (tz f n p) 7 = 0
  · have t2 : tt f n (tz f n p) = 2 := by
      apply Classical.byContradiction
      intro h
      rw [nbr_1 h] at z1
      cases z1
    have tzB3 := tzB.2.2.1 (by rw [t2]; decide)
    have tk : tn f n (tz f n p) ≤ 7 := by
      apply Classical.byContradiction
      intro h
      rw [nbr_2 t2 (fun q => h q.2)] at z1
      cases z1
    have hk8 : tn f n (tz f n p) < 8 := by omega
    have taC := ta_sp (f := f) tzB.2.1
    have tzC := tz_sp (f := f) tzB.2.1
    -- both have read the kind
    have cK : ∀ I sz, DC I f n p m C g sz → ∃ I1, DC I1 f n (tz f n p) m C g sz ∧ frC I I1 ∧ zR_readCost I = if (((I1 38 5) >>> (jn (tn f n (tz f n p)) &&& 31)) &&& (1 : Int32)) = 0 then (zT_next I1).bind fun q4 => (zR_isNumberTo (9 : Int32) q4).bind fun q5 => if ¬ q5.1 = 0 then (zT_number q5.2).bind fun q6 => (zU_putPrice (jn (tn f n (tz f n p))) q6 q5.2).bind fun q7 => (zT_next q7).bind fun q8 => wrp (zR_passLineEnd q8) else some ((0 : Int32), q5.2) else wrp (zR_refuse (4 : Int32) I1) := fun I sz hD => by
      obtain ⟨I1, e1, d1, f1⟩ := DC_next hD
      refine ⟨I1, d1, f1, ?_⟩
      rcases jc_isNumberTo d1.1 7 (by decide) with ⟨-, -, -, -, e2, e3⟩ | ⟨b1, -⟩
      · have e2 : zR_isNumberTo (7 : Int32) I1 = some (1, I1) := e2
        unfold zR_readCost
        rw [e1, Option.bind_some, e2, Option.bind_some, if_pos (show ¬ (1 : Int32) = 0 by decide)]
        dsimp only
        rw [e3, Option.bind_some]
        rfl
      · omega
    have mK : ∀ I J tp, DM I J f n p m C g tp → ∃ I1 J1, DM I1 J1 f n (tz f n p) m C g tp ∧ jgm I I1 ∧ (∀ k j, ¬ k = 76 → J1 k j = J k j) ∧ I1 76 26 = jn (tn f n (tz f n p)) ∧ fmCo I J = if ¬ (((I1 76 36) >>> ((I1 76 26) &&& 31)) &&& (1 : Int32)) = (1 : Int32) then zM_line_146 (I1 76 26) I1 J1 else (zM_wrong (4 : Int32) I1).bind fun q24 => zM_line_146 (I1 76 26) q24 J1 := fun I J tp hD => by
      obtain ⟨I1, J1, e1, d1, f1, j1⟩ := DM_next hD
      obtain ⟨e2, e3⟩ := (jm_numberHere d1.1 d1.2.1 7 (by decide)).1 z1
      refine ⟨I1, J1, d1, f1, j1, e3, ?_⟩
      have e2 : zM_numberHere (0 : Int32) (7 : Int32) I1 = some (1, I1) := e2
      unfold fmCo
      rw [e1, Option.bind_some]
      dsimp only
      rw [e2, Option.bind_some, if_pos (show ¬ (1 : Int32) = 0 by decide)]
    cases told : C (tn f n (tz f n p)) with
    | true =>
      refine ⟨.inl (4, ta f n (tz f n p)), ⟨by decide, by decide, taB.2.1⟩, fun I sz hD hs => ?_, fun I J tp hD hs => ?_⟩
      · obtain ⟨I1, d1, f1, e1⟩ := cK I sz hD
        obtain ⟨I2, e2, g1, g2, g3⟩ := jc_ref d1.1 4
        have e2 : wrp (zR_refuse (4 : Int32) I1) = some (0, I2) := e2
        refine ⟨I2, ?_, g1, g2, frC_tr f1 fun k j q => g3 k j (by omega)⟩
        rw [e1, d1.2.1.2.2.2.2.2.1, if_neg (by rw [cBit hk8, told]; decide), e2]
      · obtain ⟨I1, J1, d1, f1, j1, e26, e1⟩ := mK I J tp hD
        obtain ⟨I2, e2, b2, g2, -⟩ := jm_fl (J := J1) d1.1 d1.2.1 (kd := 4) (by decide) (by decide)
        have e2 : zM_wrong (4 : Int32) I1 = some I2 := e2
        refine ⟨(I2, J1), ?_, Flt_tr g2 f1 j1⟩
        rw [e1, if_neg (by rw [d1.2.2.1.2.2.2.2.1, e26, cBit1 hk8, told]; exact fun h => h rfl), e2, Option.bind_some]
        unfold zM_line_146
        rw [jm_bad b2, Option.bind_some, if_neg (fun h => h rfl)]
    | false =>
      by_cases z2 : nbr f n (tz f n (tz f n p)) 9 = 0
      · have t2' : tt f n (tz f n (tz f n p)) = 2 := by
          apply Classical.byContradiction
          intro h
          rw [nbr_1 h] at z2
          cases z2
        have tzC3 := tzC.2.2.1 (by rw [t2']; decide)
        have tk' : tn f n (tz f n (tz f n p)) ≤ 9 := by
          apply Classical.byContradiction
          intro h
          rw [nbr_2 t2' (fun q => h q.2)] at z2
          cases z2
        refine ⟨.inr (mPr1 m (tn f n (tz f n p)) (tn f n (tz f n (tz f n p))), cSt C (tn f n (tz f n p)), g, tz f n (tz f n (tz f n p))), ⟨dOk_pr hd tk', by omega, tzC.2.1⟩, fun I sz hD hs => ?_, fun I J tp hD hs => ?_⟩
        · obtain ⟨I1, d1, f1, e1⟩ := cK I sz hD
          obtain ⟨I2, e2, d2, f2⟩ := DC_next d1
          rcases jc_isNumberTo d2.1 9 (by decide) with ⟨-, -, -, -, e3, e4⟩ | ⟨b1, -⟩
          · have e3 : zR_isNumberTo (9 : Int32) I2 = some (1, I2) := e3
            obtain ⟨I3, e5, d3, f3⟩ := jc_putPrice (v := tn f n (tz f n (tz f n p))) d2 hk8
            obtain ⟨I4, e6, d4, f4⟩ := DC_next d3
            refine ⟨I4, sz, ?_, d4, by omega, frC_tr f1 (frC_tr f2 (frC_tr f3 f4))⟩
            rw [e1, d1.2.1.2.2.2.2.2.1, if_pos (by rw [cBit hk8]; exact told), e2, Option.bind_some, e3, Option.bind_some, if_pos (show ¬ (1 : Int32) = 0 by decide)]
            dsimp only
            rw [e4, Option.bind_some, e5, Option.bind_some, e6, Option.bind_some]
          · omega
        · obtain ⟨I1, J1, d1, f1, j1, e26, e1⟩ := mK I J tp hD
          have s36 : I1 76 36 = jb 8 C := d1.2.2.1.2.2.2.2.1
          have fr1 : ∀ a j, ¬ (a = 76 ∧ j = 36) → iq_upI I1 76 36 (jb 8 (cSt C (tn f n (tz f n p)))) a j = I1 a j := fun a j q => by
            by_cases c : a = 76
            · subst c; rw [up_ni (by omega)]
            · rw [up_nk c]
          -- the told costs are written: a draft with one bit more
          have dx : DM (iq_upI I1 76 36 (jb 8 (cSt C (tn f n (tz f n p))))) J1 f n (tz f n p) m (cSt C (tn f n (tz f n p))) g tp := by
            obtain ⟨a1, a2, ⟨h1, h2, h3, h4, h5, h6, h7, h8, h9, h10, h11, h12, h13, h14, h15⟩, a4⟩ := d1
            refine ⟨ML_f a1 (fun j => fr1 _ _ (by omega)) (fun j _ _ => fr1 _ _ (by omega)) rfl, by rw [fr1 _ _ (by omega), a2], ⟨by rw [fr1 _ _ (by omega), h1], by rw [fr1 _ _ (by omega), h2], by rw [fr1 _ _ (by omega), h3], by rw [fr1 _ _ (by omega), h4], up_eq, fun w hw => by rw [fr1 _ _ (by omega), h6 w hw], fun w hw => by rw [fr1 _ _ (by omega), h7 w hw], fun w i hw hi => by rw [fr1 _ _ (by omega), h8 w i hw hi], fun s k hs hk => by rw [fr1 _ _ (by omega), h9 s k hs hk], fun k hk => by rw [fr1 _ _ (by omega), h10 k hk], by rw [fr1 _ _ (by omega), h11], fun v hv => ?_, fun e => by rw [fr1 _ _ (by omega), h13 e], fun c hc => ?_, by rw [fr1 _ _ (by omega), h15]⟩, dR_f a4 (fr1 _ _ (by omega)) (fun k j q => fr1 _ _ (by omega))⟩
            · obtain ⟨x, q1, q2, q3⟩ := h12 v hv
              exact ⟨x, by rw [fr1 _ _ (by omega), q1], q2, fun i hi => by rw [fr1 _ _ (by omega), q3 i hi]⟩
            · obtain ⟨x, q1, q2, q3⟩ := h14 c hc
              exact ⟨x, by rw [fr1 _ _ (by omega), q1], q2, fun i hi => by rw [fr1 _ _ (by omega), q3 i hi]⟩
          obtain ⟨I2, J2, e2, d2, f2, j2⟩ := DM_next dx
          obtain ⟨I3, J3, e3, d3, f3, j3⟩ := (jm_numberD d2 9 (by decide)).1 z2
          have e3 : zM_number (0 : Int32) (9 : Int32) I2 J2 = some (jn (tn f n (tz f n (tz f n p))), I3, J3) := e3
          have fr3 : ∀ a j, ¬ (a = 91 ∧ j = tn f n (tz f n p)) → iq_upI I3 91 (tn f n (tz f n p)) (jn (tn f n (tz f n (tz f n p)))) a j = I3 a j := fun a j q => by
            by_cases c : a = 91
            · subst c; rw [up_ni (by omega)]
            · rw [up_nk c]
          refine ⟨iq_upI I3 91 (tn f n (tz f n p)) (jn (tn f n (tz f n (tz f n p)))), J3, tp, ?_, ?_, by omega, jgm_tr f1 (jgm_up (jgm_tr (jgm_up (jgm_rf I1) rfl) (jgm_tr f2 (jgm_go f3))) rfl), fun k j q => by rw [j3 k j q, j2 k j q, j1 k j q]⟩
          · rw [e1, if_pos (by rw [s36, e26, cBit1 hk8, told]; decide), e26]
            unfold zM_line_146
            rw [jm_good d1.2.1, Option.bind_some, if_pos (by decide), s36, jb_c hk8, ir_let, e2, Option.bind_some]
            dsimp only
            rw [e3, Option.bind_some]
            dsimp only
            rw [if_pos (by rw [jn_in (by omega)]; exact hk8), jn_clamp (by omega), ir_let]
          · obtain ⟨a1, a2, ⟨h1, h2, h3, h4, h5, h6, h7, h8, h9, h10, h11, h12, h13, h14, h15⟩, a4⟩ := d3
            refine ⟨ML_f a1 (fun j => fr3 _ _ (by omega)) (fun j _ _ => fr3 _ _ (by omega)) rfl, by rw [fr3 _ _ (by omega), a2], ⟨by rw [fr3 _ _ (by omega)]; exact h1, by rw [fr3 _ _ (by omega)]; exact h2, by rw [fr3 _ _ (by omega)]; exact h3, by rw [fr3 _ _ (by omega)]; exact h4, by rw [fr3 _ _ (by omega)]; exact h5, fun w hw => by rw [fr3 _ _ (by omega)]; exact h6 w hw, fun w hw => by rw [fr3 _ _ (by omega)]; exact h7 w hw, fun w i hw hi => by rw [fr3 _ _ (by omega)]; exact h8 w i hw hi, fun s k hs hk => by rw [fr3 _ _ (by omega)]; exact h9 s k hs hk, fun k hk => ?_, by rw [fr3 _ _ (by omega)]; exact h11, fun v hv => ?_, fun e => by rw [fr3 _ _ (by omega)]; exact h13 e, fun c hc => ?_, by rw [fr3 _ _ (by omega)]; exact h15⟩, dR_f a4 (fr3 _ _ (by omega)) (fun k j q => fr3 _ _ (by omega))⟩
            · show _ = jn (if k = tn f n (tz f n p) then tn f n (tz f n (tz f n p)) else mP m k)
              by_cases e : k = tn f n (tz f n p)
              · rw [if_pos e, e, up_eq]
              · rw [if_neg e, fr3 _ _ (by omega)]; exact h10 k hk
            · obtain ⟨x, q1, q2, q3⟩ := h12 v hv
              exact ⟨x, by rw [fr3 _ _ (by omega)]; exact q1, q2, fun i hi => by rw [fr3 _ _ (by omega)]; exact q3 i hi⟩
            · obtain ⟨x, q1, q2, q3⟩ := h14 c hc
              exact ⟨x, by rw [fr3 _ _ (by omega)]; exact q1, q2, fun i hi => by rw [fr3 _ _ (by omega)]; exact q3 i hi⟩
      · have z2' : 0 < nbr f n (tz f n (tz f n p)) 9 := by omega
        have z10 : nbr f n (tz f n (tz f n p)) 9 < 10 := nbr_10
        refine ⟨.inl (nbr f n (tz f n (tz f n p)) 9, ta f n (tz f n (tz f n p))), ⟨z2', z10, taC.2.1⟩, fun I sz hD hs => ?_, fun I J tp hD hs => ?_⟩
        · obtain ⟨I1, d1, f1, e1⟩ := cK I sz hD
          obtain ⟨I2, e2, d2, f2⟩ := DC_next d1
          rcases jc_isNumberTo d2.1 9 (by decide) with ⟨b1, -⟩ | ⟨-, -, I3, e3, g1, g2, g3⟩
          · omega
          · have e3 : zR_isNumberTo (9 : Int32) I2 = some (0, I3) := e3
            refine ⟨I3, ?_, g1, g2, frC_tr f1 (frC_tr f2 fun k j q => g3 k j (by omega))⟩
            rw [e1, d1.2.1.2.2.2.2.2.1, if_pos (by rw [cBit hk8]; exact told), e2, Option.bind_some, e3, Option.bind_some, if_neg (fun h => h rfl)]
        · obtain ⟨I1, J1, d1, f1, j1, e26, e1⟩ := mK I J tp hD
          have s36 : I1 76 36 = jb 8 C := d1.2.2.1.2.2.2.2.1
          have fr1 : ∀ a j, ¬ (a = 76 ∧ j = 36) → iq_upI I1 76 36 (jb 8 (cSt C (tn f n (tz f n p)))) a j = I1 a j := fun a j q => by
            by_cases c : a = 76
            · subst c; rw [up_ni (by omega)]
            · rw [up_nk c]
          have m1 : ML (iq_upI I1 76 36 (jb 8 (cSt C (tn f n (tz f n p))))) J1 f n (tz f n p) := ML_f d1.1 (fun j => fr1 _ _ (by omega)) (fun j _ _ => fr1 _ _ (by omega)) rfl
          obtain ⟨I2, J2, e2, m2, g2, j2⟩ := ML_next m1
          have hg2 : I2 76 18 = 0 := by rw [g2 _ _ (by omega), fr1 _ _ (by omega), d1.2.1]
          obtain ⟨I3, e3, b3, fl, -⟩ := (jm_numberHere m2 hg2 9 (by decide)).2 z2'
          have e3 : zM_numberHere (0 : Int32) (9 : Int32) I2 = some (0, I3) := e3
          have b4 : ¬ iq_upI I3 91 (tn f n (tz f n p)) 0 76 18 = 0 := by rw [up_nk (by decide)]; exact b3
          refine ⟨(iq_upI I3 91 (tn f n (tz f n p)) 0, J2), ?_, ?_, ?_, ?_, fun k j q => (j2 k j q).trans (j1 k j q)⟩
          · rw [e1, if_pos (by rw [s36, e26, cBit1 hk8, told]; decide), e26]
            unfold zM_line_146 zM_number zM_number_17
            rw [jm_good d1.2.1, Option.bind_some, if_pos (by decide), s36, jb_c hk8, ir_let, e2, Option.bind_some]
            dsimp only
            rw [e3, Option.bind_some, if_pos rfl]
            dsimp only
            rw [jm_bad b3, Option.bind_some, if_pos rfl, Option.bind_some]
            dsimp only
            rw [if_pos (by rw [jn_in (by omega)]; exact hk8), jn_clamp (by omega), ir_let, jm_311b b4]
          · exact fl.1
          · exact fl.2.1
          · exact jfz_up (jfz_tr (fun k j h1 _ => f1 k j h1) (jfz_tr (jfz_up (jfz_rf I1) (Or.inl rfl)) (jfz_tr (fun k j h1 _ => jgm_go g2 k j h1) fl.2.2.1))) (Or.inl rfl)
  · have z1' : 0 < nbr f n (tz f n p) 7 := by omega
    have z10 : nbr f n (tz f n p) 7 < 10 := nbr_10
    refine ⟨.inl (nbr f n (tz f n p) 7, ta f n (tz f n p)), ⟨z1', z10, taB.2.1⟩, fun I sz hD hs => ?_, fun I J tp hD hs => ?_⟩
    · obtain ⟨I1, e1, d1, f1⟩ := DC_next hD
      rcases jc_isNumberTo d1.1 7 (by decide) with ⟨b1, -⟩ | ⟨-, -, I3, e3, g1, g2, g3⟩
      · omega
      · have e3 : zR_isNumberTo (7 : Int32) I1 = some (0, I3) := e3
        refine ⟨I3, ?_, g1, g2, frC_tr f1 fun k j q => g3 k j (by omega)⟩
        unfold zR_readCost
        rw [e1, Option.bind_some, e3, Option.bind_some, if_neg (fun h => h rfl)]
    · obtain ⟨I1, J1, e1, d1, f1, j1⟩ := DM_next hD
      obtain ⟨I3, e3, b3, fl, -⟩ := (jm_numberHere d1.1 d1.2.1 7 (by decide)).2 z1'
      have e3 : zM_numberHere (0 : Int32) (7 : Int32) I1 = some (0, I3) := e3
      refine ⟨(I3, J1), ?_, Flt_tr fl f1 j1⟩
      unfold fmCo
      rw [e1, Option.bind_some]
      dsimp only
      rw [e3, Option.bind_some, if_neg (fun h => h rfl)]
