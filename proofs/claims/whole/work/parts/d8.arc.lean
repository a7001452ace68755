/-! ===== lines: arc ===== -/
def mAr1 (m : jMu) (s k t A : Nat) : jMu := (mS m, mW m, jn (A + 1), mE m, mL m, mK m, mT m, (fun a b => if a = s ∧ b = k then some t else mR m a b), mP m, mV m, mH m, mC m)
theorem dOk_ar {m : jMu} {g : jGa} {s k t A : Nat} (h : dOk m g) (hs : s < mS m) (ht : t < mS m) (hA : A < 24) : dOk (mAr1 m s k t A) g := by
  obtain ⟨⟨a1, a2, a3, a4, a5, a6, a7, a8⟩, hg, c, d, -⟩ := h
  refine ⟨⟨a1, a2, a3, fun a b u ha hb hu => ?_, a5, a6, a7, a8⟩, hg, c, fun a b h1 h2 => ?_, A + 1, by omega, rfl⟩
  · have hu : (if a = s ∧ b = k then some t else mR m a b) = some u := hu
    by_cases e : a = s ∧ b = k
    · rw [if_pos e] at hu; cases hu; exact ht
    · rw [if_neg e] at hu; exact a4 a b u ha hb hu
  · show (if a = s ∧ b = k then some t else mR m a b) = none
    have h1 : mS m ≤ a := h1
    rw [if_neg (by omega)]
    exact d a b h1 h2
theorem tbr_z {f : Nat → Nat} {n p told : Nat} (z : tbr f n p told = 0) : tt f n p = 2 ∧ tz f n p - ta f n p ≤ 4 ∧ tn f n p < told := by
  by_cases t2 : tt f n p = 2
  · by_cases l : tz f n p - ta f n p ≤ 4
    · by_cases h : tn f n p < told
      · exact ⟨t2, l, h⟩
      · rw [tbr_3 t2 l h] at z; cases z
    · rw [tbr_2 t2 l] at z; cases z
  · rw [tbr_1 t2] at z; cases z
theorem nbr_z {f : Nat → Nat} {n p most : Nat} (z : nbr f n p most = 0) : tt f n p = 2 ∧ tz f n p - ta f n p ≤ 4 ∧ tn f n p ≤ most := by
  by_cases t2 : tt f n p = 2
  · by_cases h : tz f n p - ta f n p ≤ 4 ∧ tn f n p ≤ most
    · exact ⟨t2, h⟩
    · rw [nbr_2 t2 h] at z; cases z
  · rw [nbr_1 t2] at z; cases z
theorem jc_putArc {I : iq_I} {f : Nat → Nat} {n q : Nat} {m : jMu} {C : Nat → Bool} {g : jGa} {sz s k t A : Nat} (h : DC I f n q m C g sz) (hs : s < 10) (hk : k < 8) (hA : mA m = jn A) : ∃ I', zU_putArc (jn s) (jn k) (jn t) I = some I' ∧ DC I' f n q (mAr1 m s k t A) C g sz ∧ frC I I' := by
  obtain ⟨hC, hU, hG⟩ := h
  obtain ⟨h1, h2, h3, h4, h5, h6, h7, h8, h9, h10, h11, h12, h13, h14, h15, h16, h17⟩ := hU
  have fr : ∀ a j, ¬ (a = 48 ∧ j = s * 8 + k) → ¬ (a = 38 ∧ j = 3) → iq_upI (iq_upI I 48 (s * 8 + k) (jn t)) 38 3 (jn (A + 1)) a j = I a j := fun a j q1 q2 => by
    by_cases c : a = 38
    · subst c; rw [up_ni (by omega), up_nk (by decide)]
    · rw [up_nk c]
      by_cases c2 : a = 48
      · subst c2; rw [up_ni (by omega)]
      · rw [up_nk c2]
  refine ⟨iq_upI (iq_upI I 48 (s * 8 + k) (jn t)) 38 3 (jn (A + 1)), ?_, ⟨CL_f hC (fun j => fr _ _ (by omega) (by omega)) (fun j => fr _ _ (by omega) (by omega)), ⟨by rw [fr _ _ (by omega) (by omega)]; exact h1, by rw [fr _ _ (by omega) (by omega)]; exact h2, by rw [fr _ _ (by omega) (by omega)]; exact h3, up_eq, by rw [fr _ _ (by omega) (by omega)]; exact h5, by rw [fr _ _ (by omega) (by omega)]; exact h6, fun w hw => by rw [fr _ _ (by omega) (by omega)]; exact h7 w hw, fun w hw => by rw [fr _ _ (by omega) (by omega)]; exact h8 w hw, fun k hk => by rw [fr _ _ (by omega) (by omega)]; exact h9 k hk, fun w i hw hi => by rw [fr _ _ (by omega) (by omega)]; exact h10 w i hw hi, fun a b ha hb => ?_, fun k hk => by rw [fr _ _ (by omega) (by omega)]; exact h12 k hk, by rw [fr _ _ (by omega) (by omega)]; exact h13, by rw [fr _ _ (by omega) (by omega)]; exact h14, fun v hv => ?_, fun c hc => ?_, by rw [fr _ _ (by omega) (by omega)]; exact h17⟩, dG_f hG fun a j c => fr a j (by omega) (by omega)⟩, frC_up (frC_up (frC_rf I) (by omega)) (by omega)⟩
  · unfold zU_putArc
    rw [if_neg (by rw [jl0, jn_lt (by omega) (by omega)]; omega), if_neg (by rw [jl10, jn_le (by omega) (by omega)]; omega), if_neg (by rw [jl0, jn_lt (by omega) (by omega)]; omega), if_neg (by rw [jl8, jn_le (by omega) (by omega)]; omega), jl8, jn_mul, jn_add, if_pos (by rw [jn_in (by omega)]; omega), jn_clamp (by omega), ir_let, up_nk (by decide), h4, hA, show jn A + (1 : Int32) = jn (A + 1) from jn_add _ 1, ir_let]
  · show _ = jo (if a = s ∧ b = k then some t else mR m a b)
    by_cases e : a = s ∧ b = k
    · obtain ⟨rfl, rfl⟩ := e
      rw [if_pos ⟨rfl, rfl⟩, up_nk (by decide), up_eq]; rfl
    · rw [if_neg e, fr _ _ (by omega) (by omega)]; exact h11 a b ha hb
  · obtain ⟨x, q1, q2, q3, q4⟩ := h15 v hv
    exact ⟨x, by rw [fr _ _ (by omega) (by omega)]; exact q1, by rw [fr _ _ (by omega) (by omega)]; exact q2, q3, fun i hi => by rw [fr _ _ (by omega) (by omega)]; exact q4 i hi⟩
  · obtain ⟨x, q1, q2, q3, q4⟩ := h16 c hc
    exact ⟨x, by rw [fr _ _ (by omega) (by omega)]; exact q1, by rw [fr _ _ (by omega) (by omega)]; exact q2, q3, fun i hi => by rw [fr _ _ (by omega) (by omega)]; exact q4 i hi⟩
theorem jm_putArc {I : iq_I} {J : iq_J} {f : Nat → Nat} {n q : Nat} {m : jMu} {C : Nat → Bool} {g : jGa} {tp s k t A : Nat} (h : DM I J f n q m C g tp) (hs : s < 10) (hk : k < 8) : DM (iq_upI (iq_upI I 90 (8 * s + k) (jn t)) 76 31 (jn (A + 1))) J f n q (mAr1 m s k t A) C g tp := by
  have fr : ∀ a j, ¬ (a = 90 ∧ j = 8 * s + k) → ¬ (a = 76 ∧ j = 31) → iq_upI (iq_upI I 90 (8 * s + k) (jn t)) 76 31 (jn (A + 1)) a j = I a j := fun a j q1 q2 => by
    by_cases c : a = 76
    · subst c; rw [up_ni (by omega), up_nk (by decide)]
    · rw [up_nk c]
      by_cases c2 : a = 90
      · subst c2; rw [up_ni (by omega)]
      · rw [up_nk c2]
  obtain ⟨a1, a2, ⟨h1, h2, h3, h4, h5, h6, h7, h8, h9, h10, h11, h12, h13, h14, h15⟩, a4⟩ := h
  refine ⟨ML_f a1 (fun j => fr _ _ (by omega) (by omega)) (fun j _ _ => fr _ _ (by omega) (by omega)) rfl, by rw [fr _ _ (by omega) (by omega), a2], ⟨by rw [fr _ _ (by omega) (by omega)]; exact h1, by rw [fr _ _ (by omega) (by omega)]; exact h2, by rw [fr _ _ (by omega) (by omega)]; exact h3, up_eq, by rw [fr _ _ (by omega) (by omega)]; exact h5, fun w hw => by rw [fr _ _ (by omega) (by omega)]; exact h6 w hw, fun w hw => by rw [fr _ _ (by omega) (by omega)]; exact h7 w hw, fun w i hw hi => by rw [fr _ _ (by omega) (by omega)]; exact h8 w i hw hi, fun a b ha hb => ?_, fun k hk => by rw [fr _ _ (by omega) (by omega)]; exact h10 k hk, by rw [fr _ _ (by omega) (by omega)]; exact h11, fun v hv => ?_, fun e => by rw [fr _ _ (by omega) (by omega)]; exact h13 e, fun c hc => ?_, by rw [fr _ _ (by omega) (by omega)]; exact h15⟩, dR_f a4 (fr _ _ (by omega) (by omega)) (fun k j q => fr _ _ (by omega) (by omega))⟩
  · show _ = jo (if a = s ∧ b = k then some t else mR m a b)
    by_cases e : a = s ∧ b = k
    · obtain ⟨rfl, rfl⟩ := e
      rw [if_pos ⟨rfl, rfl⟩, up_nk (by decide), up_eq]; rfl
    · rw [if_neg e, fr _ _ (by omega) (by omega)]; exact h9 a b ha hb
  · obtain ⟨x, q1, q2, q3⟩ := h12 v hv
    exact ⟨x, by rw [fr _ _ (by omega) (by omega)]; exact q1, q2, fun i hi => by rw [fr _ _ (by omega) (by omega)]; exact q3 i hi⟩
  · obtain ⟨x, q1, q2, q3⟩ := h14 c hc
    exact ⟨x, by rw [fr _ _ (by omega) (by omega)]; exact q1, q2, fun i hi => by rw [fr _ _ (by omega) (by omega)]; exact q3 i hi⟩
def fmAr (I : iq_I) (J : iq_J) : Option (iq_I × iq_J) := (zM_readsArc I J).bind fun q25 => zM_line_311 q25.1 q25.2
theorem lnArc {f : Nat → Nat} {n p : Nat} {m : jMu} {C : Nat → Bool} {g : jGa} (hp : p ≤ n) (hd : dOk m g) (hk : kw f n p = some 9) : ∃ o, LStL n p o ∧ LpC zR_readArc f n p m C g o ∧ LpM fmAr f n p m C g o := by
  have ta1 := ta_sp (f := f) hp
  have tz1 := tz_sp (f := f) hp
  have tz3 := tz1.2.2.1 (by rw [(kw_lt hk).2]; decide)
  have taB := ta_sp (f := f) tz1.2.1
  have tzB := tz_sp (f := f) tz1.2.1
  have taC := ta_sp (f := f) tzB.2.1
  have tzC := tz_sp (f := f) tzB.2.1
  have taD := ta_sp (f := f) tzC.2.1
  have tzD := tz_sp (f := f) tzC.2.1
  obtain ⟨A, hA24, hA⟩ := hd.2.2.2.2
  have h10 := hd.1.1
  by_cases A24 : A < 24
  · have cA : ∀ I sz, DC I f n p m C g sz → I 38 3 < (24 : Int32) := fun I sz hD => by rw [hD.2.1.2.2.2.1, hA, jl24, jn_lt (by omega) (by omega)]; exact A24
    have mA' : ∀ I J tp, DM I J f n p m C g tp → ¬ I 76 31 = (24 : Int32) := fun I J tp hD => by rw [hD.2.2.1.2.2.2.1, hA, jl24, jn_inj (by omega) (by omega)]; omega
    by_cases z1 : tbr f n (tz f n p) (mS m) = 0
    · obtain ⟨tB2, lB, vB⟩ := tbr_z z1
      have tzB3 := tzB.2.2.1 (by rw [tB2]; decide)
      have cS : ∀ I sz, DC I f n p m C g sz → ∃ I2, DC I2 f n (tz f n (tz f n p)) m C g sz ∧ frC I I2 ∧ zR_readArc I = (zR_isNumberTo (7 : Int32) I2).bind fun q5 => if ¬ q5.1 = 0 then (zT_number q5.2).bind fun q6 => (zU_leadsBy_38 (jn (tn f n (tz f n p))) q6 q5.2).bind fun q7 => if q7 = (-1 : Int32) then (zT_next q5.2).bind fun q8 => (zR_isToldNumber (q8 38 0) q8).bind fun q9 => if ¬ q9.1 = 0 then (zT_number q9.2).bind fun q10 => (zU_putArc (jn (tn f n (tz f n p))) q6 q10 q9.2).bind fun q11 => (zT_next q11).bind fun q12 => wrp (zR_passLineEnd q12) else some ((0 : Int32), q9.2) else wrp (zR_refuse (4 : Int32) q5.2) else some ((0 : Int32), q5.2) := fun I sz hD => by
        obtain ⟨I1, e1, d1, f1⟩ := DC_next hD
        obtain ⟨I2, e2, d2, f2⟩ := DC_next d1
        refine ⟨I2, d2, frC_tr f1 f2, ?_⟩
        rcases jc_isTold d1.1 (mS m) (by omega) with ⟨-, -, -, -, e3, e4⟩ | ⟨b1, -⟩
        · unfold zR_readArc
          rw [if_pos (cA I sz hD), e1, Option.bind_some, d1.2.1.1, e3, Option.bind_some, if_pos (show ¬ (1 : Int32) = 0 by decide)]
          dsimp only
          rw [e4, Option.bind_some, e2, Option.bind_some]
          rfl
        · omega
      have mS' : ∀ I J tp, DM I J f n p m C g tp → ∃ I2 J2, DM I2 J2 f n (tz f n (tz f n p)) m C g tp ∧ jgm I I2 ∧ (∀ k j, ¬ k = 76 → J2 k j = J k j) ∧ zM_readsArc I J = (zM_numberHere (0 : Int32) (7 : Int32) I2).bind fun q4 => if ¬ q4.1 = 0 then (if iq_in (((8 : Int32) * jn (tn f n (tz f n p))) + (q4.2 76 26)) 80 then (if (q4.2 90 (Int32.toNatClampNeg (((8 : Int32) * jn (tn f n (tz f n p))) + (q4.2 76 26)))) = (-1 : Int32) then zM_readsArc_71 (((8 : Int32) * jn (tn f n (tz f n p))) + (q4.2 76 26)) q4.2 J2 else (zM_wrong (4 : Int32) q4.2).bind fun q11 => zM_readsArc_71 (((8 : Int32) * jn (tn f n (tz f n p))) + (q4.2 76 26)) q11 J2) else none) else some (q4.2, J2) := fun I J tp hD => by
        obtain ⟨I1, J1, e1, d1, f1, j1⟩ := DM_next hD
        obtain ⟨I2, J2, e2, d2, f2, j2⟩ := (jm_oneD d1 (mS m) (by omega)).1 z1
        refine ⟨I2, J2, d2, jgm_tr f1 (jgm_go f2), fun k j q => by rw [j2 k j q, j1 k j q], ?_⟩
        unfold zM_readsArc zM_readsArc_14
        rw [if_pos (mA' I J tp hD), jm_good hD.2.1, Option.bind_some, if_pos (by decide), e1, Option.bind_some]
        dsimp only
        rw [d1.2.2.1.1, e2, Option.bind_some]
      by_cases z2 : nbr f n (tz f n (tz f n p)) 7 = 0
      · obtain ⟨tC2, lC, vC⟩ := nbr_z z2
        have tzC3 := tzC.2.2.1 (by rw [tC2]; decide)
        have r8 : mS m ≤ 10 := h10
        have cK : ∀ I sz, DC I f n (tz f n (tz f n p)) m C g sz → ((zR_isNumberTo (7 : Int32) I).bind fun q5 => if ¬ q5.1 = 0 then (zT_number q5.2).bind fun q6 => (zU_leadsBy_38 (jn (tn f n (tz f n p))) q6 q5.2).bind fun q7 => if q7 = (-1 : Int32) then (zT_next q5.2).bind fun q8 => (zR_isToldNumber (q8 38 0) q8).bind fun q9 => if ¬ q9.1 = 0 then (zT_number q9.2).bind fun q10 => (zU_putArc (jn (tn f n (tz f n p))) q6 q10 q9.2).bind fun q11 => (zT_next q11).bind fun q12 => wrp (zR_passLineEnd q12) else some ((0 : Int32), q9.2) else wrp (zR_refuse (4 : Int32) q5.2) else some ((0 : Int32), q5.2)) = if mR m (tn f n (tz f n p)) (tn f n (tz f n (tz f n p))) = none then (zT_next I).bind fun q8 => (zR_isToldNumber (q8 38 0) q8).bind fun q9 => if ¬ q9.1 = 0 then (zT_number q9.2).bind fun q10 => (zU_putArc (jn (tn f n (tz f n p))) (jn (tn f n (tz f n (tz f n p)))) q10 q9.2).bind fun q11 => (zT_next q11).bind fun q12 => wrp (zR_passLineEnd q12) else some ((0 : Int32), q9.2) else wrp (zR_refuse (4 : Int32) I) := fun I sz hD => by
          rcases jc_isNumberTo hD.1 7 (by decide) with ⟨-, -, -, -, e3, e4⟩ | ⟨b1, -⟩
          · have e3 : zR_isNumberTo (7 : Int32) I = some (1, I) := e3
            have lb : zU_leadsBy_38 (jn (tn f n (tz f n p))) (jn (tn f n (tz f n (tz f n p)))) I = some (jo (mR m (tn f n (tz f n p)) (tn f n (tz f n (tz f n p))))) := by
              unfold zU_leadsBy_38
              rw [if_neg (by rw [jl0, jn_lt (by omega) (by omega)]; omega), hD.2.1.1, if_neg (by rw [jn_le (by omega) (by omega)]; omega), if_neg (by rw [jl0, jn_lt (by omega) (by omega)]; omega), if_pos (by rw [jl8, jn_lt (by omega) (by omega)]; omega), jl8, jn_mul, jn_add, if_pos (by rw [jn_in (by omega)]; omega), jn_clamp (by omega), hD.2.1.2.2.2.2.2.2.2.2.2.2.1 _ _ (by omega) (by omega)]
            rw [e3, Option.bind_some, if_pos (show ¬ (1 : Int32) = 0 by decide)]
            dsimp only
            rw [e4, Option.bind_some, lb, Option.bind_some]
            cases r : mR m (tn f n (tz f n p)) (tn f n (tz f n (tz f n p))) with
            | none => rw [if_pos (show jo none = -1 from rfl), if_pos rfl]
            | some u =>
              have := hd.1.2.2.2.1 _ _ u vB (by omega) r
              rw [jo_some, if_neg (jn_ne (by omega) (by decide)), if_neg (by intro h; cases h)]
          · omega
        have mK : ∀ I J tp, DM I J f n (tz f n (tz f n p)) m C g tp → ((zM_numberHere (0 : Int32) (7 : Int32) I).bind fun q4 => if ¬ q4.1 = 0 then (if iq_in (((8 : Int32) * jn (tn f n (tz f n p))) + (q4.2 76 26)) 80 then (if (q4.2 90 (Int32.toNatClampNeg (((8 : Int32) * jn (tn f n (tz f n p))) + (q4.2 76 26)))) = (-1 : Int32) then zM_readsArc_71 (((8 : Int32) * jn (tn f n (tz f n p))) + (q4.2 76 26)) q4.2 J else (zM_wrong (4 : Int32) q4.2).bind fun q11 => zM_readsArc_71 (((8 : Int32) * jn (tn f n (tz f n p))) + (q4.2 76 26)) q11 J) else none) else some (q4.2, J)) = if mR m (tn f n (tz f n p)) (tn f n (tz f n (tz f n p))) = none then zM_readsArc_71 (jn (8 * tn f n (tz f n p) + tn f n (tz f n (tz f n p)))) I J else (zM_wrong (4 : Int32) I).bind fun q11 => zM_readsArc_71 (jn (8 * tn f n (tz f n p) + tn f n (tz f n (tz f n p)))) q11 J := fun I J tp hD => by
          obtain ⟨e3, e4⟩ := (jm_numberHere hD.1 hD.2.1 7 (by decide)).1 z2
          have e3 : zM_numberHere (0 : Int32) (7 : Int32) I = some (1, I) := e3
          have ia : (8 : Int32) * jn (tn f n (tz f n p)) + I 76 26 = jn (8 * tn f n (tz f n p) + tn f n (tz f n (tz f n p))) := by rw [e4, jl8, jn_mul, jn_add]
          rw [e3, Option.bind_some, if_pos (show ¬ (1 : Int32) = 0 by decide)]
          dsimp only
          simp only [ia]
          rw [if_pos (by rw [jn_in (by omega)]; omega), jn_clamp (by omega), hD.2.2.1.2.2.2.2.2.2.2.2.1 _ _ (by omega) (by omega)]
          cases r : mR m (tn f n (tz f n p)) (tn f n (tz f n (tz f n p))) with
          | none => rw [if_pos (show jo none = -1 from rfl), if_pos rfl]
          | some u =>
            have := hd.1.2.2.2.1 _ _ u vB (by omega) r
            rw [jo_some, if_neg (jn_ne (by omega) (by decide)), if_neg (by intro h; cases h)]
        by_cases told : mR m (tn f n (tz f n p)) (tn f n (tz f n (tz f n p))) = none
        · by_cases z3 : tbr f n (tz f n (tz f n (tz f n p))) (mS m) = 0
          · obtain ⟨tD2, lD, vD⟩ := tbr_z z3
            have tzD3 := tzD.2.2.1 (by rw [tD2]; decide)
            refine ⟨.inr (mAr1 m (tn f n (tz f n p)) (tn f n (tz f n (tz f n p))) (tn f n (tz f n (tz f n (tz f n p)))) A, C, g, tz f n (tz f n (tz f n (tz f n p)))), ⟨dOk_ar hd vB vD A24, by omega, tzD.2.1⟩, fun I sz hD hs => ?_, fun I J tp hD hs => ?_⟩
            · obtain ⟨I1, d1, f1, e1⟩ := cS I sz hD
              obtain ⟨I2, e2, d2, f2⟩ := DC_next d1
              obtain ⟨I3, e3, d3, f3⟩ := jc_putArc (t := tn f n (tz f n (tz f n (tz f n p)))) d2 (show tn f n (tz f n p) < 10 by omega) (show tn f n (tz f n (tz f n p)) < 8 by omega) hA
              obtain ⟨I4, e4, d4, f4⟩ := DC_next d3
              rcases jc_isTold d2.1 (mS m) (by omega) with ⟨-, -, -, -, e5, e6⟩ | ⟨b1, -⟩
              · refine ⟨I4, sz, ?_, d4, by omega, frC_tr f1 (frC_tr f2 (frC_tr f3 f4))⟩
                rw [e1, cK I1 sz d1, if_pos told, e2, Option.bind_some, d2.2.1.1, e5, Option.bind_some, if_pos (show ¬ (1 : Int32) = 0 by decide)]
                dsimp only
                rw [e6, Option.bind_some, e3, Option.bind_some, e4, Option.bind_some]
              · omega
            · obtain ⟨I1, J1, d1, f1, j1, e1⟩ := mS' I J tp hD
              obtain ⟨I2, J2, e2, d2, f2, j2⟩ := DM_next d1
              obtain ⟨I3, J3, e3, d3, f3, j3⟩ := (jm_oneD d2 (mS m) (by omega)).1 z3
              refine ⟨_, J3, tp, ?_, jm_putArc (A := A) (t := tn f n (tz f n (tz f n (tz f n p)))) d3 (show tn f n (tz f n p) < 10 by omega) (show tn f n (tz f n (tz f n p)) < 8 by omega), by omega, jgm_tr f1 (jgm_up (jgm_up (jgm_tr f2 (jgm_go f3)) rfl) rfl), fun k j q => by rw [j3 k j q, j2 k j q, j1 k j q]⟩
              unfold fmAr
              rw [e1, mK I1 J1 tp d1, if_pos told]
              unfold zM_readsArc_71
              rw [jm_good d1.2.1, Option.bind_some, if_pos (by decide), e2, Option.bind_some]
              dsimp only
              rw [d2.2.2.1.1, e3, Option.bind_some]
              dsimp only
              rw [jm_good d3.2.1, Option.bind_some, if_pos (by decide), if_pos (by rw [jn_in (by omega)]; omega), jn_clamp (by omega), ir_let, up_nk (by decide), d3.2.2.1.2.2.2.1, hA, show jn A + (1 : Int32) = jn (A + 1) from jn_add _ 1, ir_let, Option.bind_some]
          · have z3' : 0 < tbr f n (tz f n (tz f n (tz f n p))) (mS m) := by omega
            refine ⟨.inl (tbr f n (tz f n (tz f n (tz f n p))) (mS m), ta f n (tz f n (tz f n (tz f n p)))), ⟨z3', tbr_10, taD.2.1⟩, fun I sz hD hs => ?_, fun I J tp hD hs => ?_⟩
            · obtain ⟨I1, d1, f1, e1⟩ := cS I sz hD
              obtain ⟨I2, e2, d2, f2⟩ := DC_next d1
              rcases jc_isTold d2.1 (mS m) (by omega) with ⟨b1, -⟩ | ⟨-, -, I3, e5, g1, g2, g3⟩
              · omega
              · refine ⟨I3, ?_, g1, g2, frC_tr f1 (frC_tr f2 fun k j q => g3 k j (by omega))⟩
                rw [e1, cK I1 sz d1, if_pos told, e2, Option.bind_some, d2.2.1.1, e5, Option.bind_some, if_neg (fun h => h rfl)]
            · obtain ⟨I1, J1, d1, f1, j1, e1⟩ := mS' I J tp hD
              obtain ⟨I2, J2, e2, d2, f2, j2⟩ := DM_next d1
              obtain ⟨I3, e3, b3, fl, -⟩ := (jm_oneD d2 (mS m) (by omega)).2 z3'
              refine ⟨(I3, J2), ?_, Flt_tr (Flt_tr fl f2 j2) f1 j1⟩
              unfold fmAr
              rw [e1, mK I1 J1 tp d1, if_pos told]
              unfold zM_readsArc_71
              rw [jm_good d1.2.1, Option.bind_some, if_pos (by decide), e2, Option.bind_some]
              dsimp only
              rw [d2.2.2.1.1, e3, Option.bind_some]
              dsimp only
              rw [jm_bad b3, Option.bind_some, if_neg (fun h => h rfl), Option.bind_some, jm_311b b3]
        · refine ⟨.inl (4, ta f n (tz f n (tz f n p))), ⟨by decide, by decide, taC.2.1⟩, fun I sz hD hs => ?_, fun I J tp hD hs => ?_⟩
          · obtain ⟨I1, d1, f1, e1⟩ := cS I sz hD
            obtain ⟨I2, e2, g1, g2, g3⟩ := jc_ref d1.1 4
            have e2 : wrp (zR_refuse (4 : Int32) I1) = some (0, I2) := e2
            refine ⟨I2, ?_, g1, g2, frC_tr f1 fun k j q => g3 k j (by omega)⟩
            rw [e1, cK I1 sz d1, if_neg told, e2]
          · obtain ⟨I1, J1, d1, f1, j1, e1⟩ := mS' I J tp hD
            obtain ⟨I2, e2, b2, g2, -⟩ := jm_fl (J := J1) d1.1 d1.2.1 (kd := 4) (by decide) (by decide)
            have e2 : zM_wrong (4 : Int32) I1 = some I2 := e2
            refine ⟨(I2, J1), ?_, Flt_tr g2 f1 j1⟩
            unfold fmAr
            rw [e1, mK I1 J1 tp d1, if_neg told, e2, Option.bind_some]
            unfold zM_readsArc_71
            rw [jm_bad b2, Option.bind_some, if_neg (fun h => h rfl), Option.bind_some, jm_311b b2]
      · have z2' : 0 < nbr f n (tz f n (tz f n p)) 7 := by omega
        refine ⟨.inl (nbr f n (tz f n (tz f n p)) 7, ta f n (tz f n (tz f n p))), ⟨z2', nbr_10, taC.2.1⟩, fun I sz hD hs => ?_, fun I J tp hD hs => ?_⟩
        · obtain ⟨I1, d1, f1, e1⟩ := cS I sz hD
          rcases jc_isNumberTo d1.1 7 (by decide) with ⟨b1, -⟩ | ⟨-, -, I3, e5, g1, g2, g3⟩
          · omega
          · have e5 : zR_isNumberTo (7 : Int32) I1 = some (0, I3) := e5
            refine ⟨I3, ?_, g1, g2, frC_tr f1 fun k j q => g3 k j (by omega)⟩
            rw [e1, e5, Option.bind_some, if_neg (fun h => h rfl)]
        · obtain ⟨I1, J1, d1, f1, j1, e1⟩ := mS' I J tp hD
          obtain ⟨I3, e3, b3, fl, -⟩ := (jm_numberHere d1.1 d1.2.1 7 (by decide)).2 z2'
          have e3 : zM_numberHere (0 : Int32) (7 : Int32) I1 = some (0, I3) := e3
          refine ⟨(I3, J1), ?_, Flt_tr fl f1 j1⟩
          unfold fmAr
          rw [e1, e3, Option.bind_some, if_neg (fun h => h rfl), Option.bind_some, jm_311b b3]
    · have z1' : 0 < tbr f n (tz f n p) (mS m) := by omega
      refine ⟨.inl (tbr f n (tz f n p) (mS m), ta f n (tz f n p)), ⟨z1', tbr_10, taB.2.1⟩, fun I sz hD hs => ?_, fun I J tp hD hs => ?_⟩
      · obtain ⟨I1, e1, d1, f1⟩ := DC_next hD
        rcases jc_isTold d1.1 (mS m) (by omega) with ⟨b1, -⟩ | ⟨-, -, I3, e5, g1, g2, g3⟩
        · omega
        · refine ⟨I3, ?_, g1, g2, frC_tr f1 fun k j q => g3 k j (by omega)⟩
          unfold zR_readArc
          rw [if_pos (cA I sz hD), e1, Option.bind_some, d1.2.1.1, e5, Option.bind_some, if_neg (fun h => h rfl)]
      · obtain ⟨I1, J1, e1, d1, f1, j1⟩ := DM_next hD
        obtain ⟨I3, e3, b3, fl, -⟩ := (jm_oneD d1 (mS m) (by omega)).2 z1'
        refine ⟨(I3, J1), ?_, Flt_tr fl f1 j1⟩
        unfold fmAr zM_readsArc zM_readsArc_14 zM_numberHere
        rw [if_pos (mA' I J tp hD), jm_good hD.2.1, Option.bind_some, if_pos (by decide), e1, Option.bind_some]
        dsimp only
        rw [d1.2.2.1.1, e3, Option.bind_some]
        dsimp only
        rw [jm_bad b3, Option.bind_some, if_neg (fun h => h rfl), Option.bind_some, if_neg (fun h => h rfl), Option.bind_some, jm_311b b3]
  · have e24 : A = 24 := by omega
    subst e24
    refine ⟨.inl (2, ta f n p), ⟨by decide, by decide, ta1.2.1⟩, fun I sz hD hs => ?_, fun I J tp hD hs => ?_⟩
    · obtain ⟨I1, e1, g1, g2, g3⟩ := jc_ref hD.1 2
      refine ⟨I1, ?_, g1, g2, fun k j q => g3 k j (by omega)⟩
      unfold zR_readArc
      rw [hD.2.1.2.2.2.1, hA, if_neg (by decide)]
      exact e1
    · obtain ⟨I2, e2, b2, g2, -⟩ := jm_fl (J := J) hD.1 hD.2.1 (kd := 2) (by decide) (by decide)
      have e2 : zM_wrong (2 : Int32) I = some I2 := e2
      refine ⟨(I2, J), ?_, g2⟩
      unfold fmAr zM_readsArc zM_readsArc_14
      rw [hD.2.2.1.2.2.2.1, hA, if_neg (fun h => h rfl), e2, Option.bind_some, jm_bad b2, Option.bind_some, if_neg (fun h => h rfl), Option.bind_some, jm_311b b2]
