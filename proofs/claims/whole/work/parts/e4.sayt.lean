/-! ===== lines: saying, the line ===== -/
def fmSa (I : iq_I) (J : iq_J) : Option (iq_I × iq_J) := (zM_readsSaying I J).bind fun q => zM_line_311 q.1 q.2
theorem lnSaying {f : Nat → Nat} {n p : Nat} {m : jMu} {C : Nat → Bool} {g : jGa} (hp : p ≤ n) (hd : dOk m g) (hk : kw f n p = some 11) : ∃ o, LStL n p o ∧ LpC zR_readSaying f n p m C g o ∧ LpM fmSa f n p m C g o := by
  have hm := hd.1
  have h10 := hm.1
  have ta1 := ta_sp (f := f) hp
  have tz1 := tz_sp (f := f) hp
  have tz3 := tz1.2.2.1 (by rw [(kw_lt hk).2]; decide)
  have taB := ta_sp (f := f) tz1.2.1
  have tzB := tz_sp (f := f) tz1.2.1
  have hg5 := hd.2.1.1
  by_cases h5 : gY g < 5
  · have cA : ∀ I sz, DC I f n p m C g sz → I 50 0 < (5 : Int32) := fun I sz hD => by rw [hD.2.2.1.1, jl5, jn_lt (by omega) (by omega)]; exact h5
    have mA' : ∀ I J tp, DM I J f n p m C g tp → ¬ I 76 33 = (5 : Int32) := fun I J tp hD => by rw [hD.2.2.2.1, jl5, jn_inj (by omega) (by omega)]; omega
    by_cases z1 : tbr f n (tz f n p) (mS m) = 0
    · obtain ⟨tB2, lB, vB⟩ := tbr_z z1
      have tzB3 := tzB.2.2.1 (by rw [tB2]; decide)
      obtain ⟨o, st, hc, hmm⟩ := sayLoop (f := f) (n := n) (C := C) hd h5 vB 40 (tz f n (tz f n p)) (tn f n (tz f n p)) [] rfl tzB.2.1 vB (fun i hi => absurd hi (Nat.not_lt_zero _))
      have cS : ∀ I sz, DC I f n p m C g sz → ∃ I2, DC I2 f n (tz f n (tz f n p)) m C (gSy g (tn f n (tz f n p)) []) sz ∧ frC I I2 ∧ zR_readSaying I = (zR_readSaying_l73 (jn (gY g)) ir_F (jn (tn f n (tz f n p)), jn ([] : List Nat).length, I2)).bind fun w13 => ir_sm w13 (fun a14 => wrp (zR_passLineEnd a14)) (fun b15 => some b15) := fun I sz hD => by
        obtain ⟨I1, e1, d1, f1⟩ := DC_next hD
        obtain ⟨I2, e2, d2, f2⟩ := jc_putSaying (b := tn f n (tz f n p)) d1 h5
        obtain ⟨I3, e3, d3, f3⟩ := DC_next d2
        refine ⟨I3, d3, frC_tr f1 (frC_tr f2 f3), ?_⟩
        rcases jc_isTold d1.1 (mS m) (by omega) with ⟨-, -, -, -, e4, e5⟩ | ⟨b1, -⟩
        · unfold zR_readSaying
          rw [if_pos (cA I sz hD), e1, Option.bind_some, d1.2.1.1, e4, Option.bind_some, if_pos (show ¬ (1 : Int32) = 0 by decide)]
          dsimp only
          rw [e5, Option.bind_some, e2, Option.bind_some, e3, Option.bind_some, d1.2.2.1.1]
          rfl
        · omega
      have mS' : ∀ I J tp, DM I J f n p m C g tp → ∃ I2 J2, SM I2 J2 f n (tz f n (tz f n p)) m C g tp (tn f n (tz f n p)) [] ∧ jgm I I2 ∧ (∀ k j, ¬ k = 76 → J2 k j = J k j) ∧ fmSa I J = (zM_readsSaying_l58 (jn (gY g)) ir_F (jn (tn f n (tz f n p)), I2, J2)).bind cSa := fun I J tp hD => by
        obtain ⟨I1, J1, e1, d1, f1, j1⟩ := DM_next hD
        obtain ⟨I2, J2, e2, d2, f2, j2⟩ := (jm_oneD d1 (mS m) (by omega)).1 z1
        have y1 : I1 76 33 = jn (gY g) := d1.2.2.2.1
        have i5 : iq_in (jn (gY g)) 5 := by rw [jn_in (by omega)]; exact h5
        have i206 : iq_in (jn (gY g)) 206 := by rw [jn_in (by omega)]; omega
        have kg : (jn (gY g)).toNatClampNeg = gY g := jn_clamp (by omega)
        have d3 : DM (iq_upI I2 93 (gY g) (jn (tn f n (tz f n p)))) J2 f n (tz f n (tz f n p)) m C g tp :=
          ⟨ML_f d2.1 (fun j => up_nk (by decide)) (fun j _ _ => up_nk (by decide)) rfl, by rw [up_nk (by decide)]; exact d2.2.1, dN_f d2.2.2.1 (fun j _ _ => up_nk (by decide)) (fun k j q => up_nk (by omega)), by rw [up_nk (by decide)]; exact d2.2.2.2.1, fun s hs => by rw [up_ni (by omega)]; exact d2.2.2.2.2.1 s hs, jRR_cg d2.2.2.2.2.2 fun j => up_nk (by decide)⟩
        refine ⟨iq_upI (iq_upI I2 93 (gY g) (jn (tn f n (tz f n p)))) 94 (gY g) 0, J2, ⟨DM_94 hd.2.1 d3 h5 (Or.inl rfl), by rw [up_nk (by decide), up_eq], up_eq, fun i hi => absurd hi (Nat.not_lt_zero _)⟩, jgm_up (jgm_up (jgm_tr f1 (jgm_go f2)) rfl) rfl, fun k j q => by rw [j2 k j q, j1 k j q], ?_⟩
        have e93 : iq_upI (iq_upI I2 93 (gY g) (jn (tn f n (tz f n p)))) 94 (gY g) 0 93 (gY g) = jn (tn f n (tz f n p)) := by rw [up_nk (by decide), up_eq]
        unfold fmSa zM_readsSaying zM_readsSaying_13
        rw [if_pos (mA' I J tp hD), jm_good hD.2.1, Option.bind_some, if_pos (by decide), e1, Option.bind_some]
        dsimp only
        rw [d1.2.2.1.1, e2, Option.bind_some]
        dsimp only
        simp only [y1, kg]
        rw [if_pos i5, ir_let, if_pos i206, ir_let, if_pos i5, e93, Option.bind_assoc]
        rfl
      cases o with
      | inl ft =>
        obtain ⟨kd, pl⟩ := ft
        refine ⟨.inl (kd, pl), st, fun I sz hD hs => ?_, fun I J tp hD hs => ?_⟩
        · obtain ⟨I2, d2, f2, e2⟩ := cS I sz hD
          obtain ⟨I3, e3, g1, g2, f3⟩ := hc I2 sz d2 ir_F (by unfold ir_F; omega)
          refine ⟨I3, ?_, g1, g2, frC_tr f2 f3⟩
          rw [e2, e3]
          rfl
        · obtain ⟨I2, J2, d2, f2, j2, e2⟩ := mS' I J tp hD
          obtain ⟨w, e3, fl⟩ := hmm I2 J2 tp d2 ir_F (by unfold ir_F; omega)
          exact ⟨w, by rw [e2, e3], Flt_tr fl f2 j2⟩
      | inr ok =>
        obtain ⟨ws, q⟩ := ok
        obtain ⟨s1, s2, s3, s4⟩ := st
        refine ⟨.inr (m, C, gSy g (tn f n (tz f n p)) ws, q), ⟨dOk_sy hd h5 vB s3 s4, by omega, s2⟩, fun I sz hD hs => ?_, fun I J tp hD hs => ?_⟩
        · obtain ⟨I2, d2, f2, e2⟩ := cS I sz hD
          obtain ⟨I3, e3, d3, f3⟩ := hc I2 sz d2 ir_F (by unfold ir_F; omega)
          refine ⟨I3, sz, ?_, d3, by omega, frC_tr f2 f3⟩
          rw [e2, e3]
          rfl
        · obtain ⟨I2, J2, d2, f2, j2, e2⟩ := mS' I J tp hD
          obtain ⟨I3, J3, e3, d3, f3, j3⟩ := hmm I2 J2 tp d2 ir_F (by unfold ir_F; omega)
          refine ⟨iq_upI I3 76 33 (jn (gY g + 1)), J3, tp, ?_, jm_sayEnd d3, by omega, jgm_up (jgm_tr f2 f3) rfl, fun k j q => by rw [j3 k j q, j2 k j q]⟩
          rw [e2, e3, Option.bind_some]
          unfold cSa
          show (zM_readsSaying_193 I3 J3).bind _ = _
          unfold zM_readsSaying_193
          rw [jm_good d3.1.2.1, Option.bind_some, if_neg (by decide), d3.1.2.2.2.1, show jn (gY g) + (1 : Int32) = jn (gY g + 1) from jn_add _ 1, ir_let, Option.bind_some]
    · have z1' : 0 < tbr f n (tz f n p) (mS m) := by omega
      refine ⟨.inl (tbr f n (tz f n p) (mS m), ta f n (tz f n p)), ⟨z1', tbr_10, taB.2.1⟩, fun I sz hD hs => ?_, fun I J tp hD hs => ?_⟩
      · obtain ⟨I1, e1, d1, f1⟩ := DC_next hD
        rcases jc_isTold d1.1 (mS m) (by omega) with ⟨b1, -⟩ | ⟨-, -, I3, e3, g1, g2, g3⟩
        · omega
        · refine ⟨I3, ?_, g1, g2, frC_tr f1 fun k j q => g3 k j (by omega)⟩
          unfold zR_readSaying
          rw [if_pos (cA I sz hD), e1, Option.bind_some, d1.2.1.1, e3, Option.bind_some, if_neg (fun h => h rfl)]
      · obtain ⟨I1, J1, e1, d1, f1, j1⟩ := DM_next hD
        obtain ⟨I2, e2, b2, fl, fr⟩ := (jm_oneD d1 (mS m) (by omega)).2 z1'
        have y1 : I1 76 33 = jn (gY g) := d1.2.2.2.1
        have i5 : iq_in (jn (gY g)) 5 := by rw [jn_in (by omega)]; exact h5
        have i206 : iq_in (jn (gY g)) 206 := by rw [jn_in (by omega)]; omega
        have kg : (jn (gY g)).toNatClampNeg = gY g := jn_clamp (by omega)
        have b3 : ¬ iq_upI (iq_upI I2 93 (gY g) 0) 94 (gY g) 0 76 18 = 0 := by rw [up_nk (by decide), up_nk (by decide)]; exact b2
        have fl1 := Flt_tr fl f1 j1
        have el : zM_readsSaying_l58 (jn (gY g)) ir_F (iq_upI (iq_upI I2 93 (gY g) 0) 94 (gY g) 0 93 (gY g), iq_upI (iq_upI I2 93 (gY g) 0) 94 (gY g) 0, J1) = some (.inl (iq_upI (iq_upI I2 93 (gY g) 0) 94 (gY g) 0, J1)) := by
          refine js_0 (n := 19999) ?_
          dsimp only
          unfold zM_readsSaying_l58_b
          rw [jm_bad b3, Option.bind_some, if_pos rfl]
        refine ⟨(iq_upI (iq_upI I2 93 (gY g) 0) 94 (gY g) 0, J1), ?_, by show iq_upI (iq_upI I2 93 (gY g) 0) 94 (gY g) 0 76 18 = _; rw [up_nk (by decide), up_nk (by decide)]; exact fl1.1, by show iq_upI (iq_upI I2 93 (gY g) 0) 94 (gY g) 0 76 19 = _; rw [up_nk (by decide), up_nk (by decide)]; exact fl1.2.1, jfz_up (jfz_up fl1.2.2.1 (Or.inl rfl)) (Or.inl rfl), fl1.2.2.2⟩
        unfold fmSa zM_readsSaying zM_readsSaying_13
        rw [if_pos (mA' I J tp hD), jm_good hD.2.1, Option.bind_some, if_pos (by decide), e1, Option.bind_some]
        dsimp only
        rw [d1.2.2.1.1, e2, Option.bind_some]
        dsimp only
        simp only [y1, kg]
        rw [if_pos i5, ir_let, if_pos i206, ir_let, if_pos i5, el, Option.bind_some]
        show (zM_readsSaying_193 _ _).bind _ = _
        rw [jm_193b b3, Option.bind_some, jm_311b b3]
  · have e5 : gY g = 5 := by omega
    refine ⟨.inl (2, ta f n p), ⟨by decide, by decide, ta1.2.1⟩, fun I sz hD hs => ?_, fun I J tp hD hs => ?_⟩
    · obtain ⟨I1, e1, g1, g2, g3⟩ := jc_ref hD.1 2
      refine ⟨I1, ?_, g1, g2, fun k j q => g3 k j (by omega)⟩
      unfold zR_readSaying
      rw [hD.2.2.1.1, e5, if_neg (by decide)]
      exact e1
    · obtain ⟨I2, e2, b2, g2, -⟩ := jm_fl (J := J) hD.1 hD.2.1 (kd := 2) (by decide) (by decide)
      have e2 : zM_wrong (2 : Int32) I = some I2 := e2
      refine ⟨(I2, J), ?_, g2⟩
      unfold fmSa zM_readsSaying zM_readsSaying_13
      rw [hD.2.2.2.1, e5, if_neg (fun h => h rfl), e2, Option.bind_some, jm_bad b2, Option.bind_some, if_neg (fun h => h rfl), Option.bind_some, jm_311b b2]
