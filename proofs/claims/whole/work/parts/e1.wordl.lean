/-! ===== lines: word, the line ===== -/
def fmWd (I : iq_I) (J : iq_J) : Option (iq_I × iq_J) := (zM_readsWord I J).bind fun q26 => zM_line_311 q26.1 q26.2
theorem jm_rw61b {I : iq_I} {J : iq_J} {x : Int32} {k : Nat} (hb : ¬ I 76 18 = 0) (hk : k < 2147483648) (hx : x = jn k) : zM_readsWord_61 x I J = some (I, J) := by
  subst hx
  have e : zM_readsWord_l63 (jn k) J ir_F ((0 : Int32), I) = some I := by
    refine js_0 (n := 19999) ?_
    dsimp only
    unfold zM_readsWord_l63_b
    by_cases q : jn k ≤ 0
    · rw [if_pos q]
    · rw [if_neg q, jm_bad hb, Option.bind_some, if_pos rfl]
  unfold zM_readsWord_61 zM_readsWord_94
  rw [e, Option.bind_some, jm_bad hb, Option.bind_some, if_neg (fun h => h rfl)]
theorem lnWord {f : Nat → Nat} {n p : Nat} {m : jMu} {C : Nat → Bool} {g : jGa} (hp : p ≤ n) (hd : dOk m g) (hk : kw f n p = some 2) : ∃ o, LStL n p o ∧ LpC zR_readWord f n p m C g o ∧ LpM fmWd f n p m C g o := by
  have hm := hd.1
  have ta1 := ta_sp (f := f) hp
  have tz1 := tz_sp (f := f) hp
  have tz3 := tz1.2.2.1 (by rw [(kw_lt hk).2]; decide)
  have taB := ta_sp (f := f) tz1.2.1
  have tzB := tz_sp (f := f) tz1.2.1
  have taC := ta_sp (f := f) tzB.2.1
  have tzC := tz_sp (f := f) tzB.2.1
  have h14 := hm.2.1
  have tB4 := tt_le (f := f) (n := n) (p := tz f n p)
  by_cases hW : mW m < 14
  · have cA : ∀ I sz, DC I f n p m C g sz → I 38 2 < (14 : Int32) := fun I sz hD => by rw [hD.2.1.2.2.1, jl14, jn_lt (by omega) (by omega)]; exact hW
    have mA' : ∀ I J tp, DM I J f n p m C g tp → ¬ I 76 30 = (14 : Int32) := fun I J tp hD => by rw [hD.2.2.1.2.2.1, jl14, jn_inj (by omega) (by omega)]; omega
    -- the reference at the word
    have mB1 : ∀ I J tp, DM I J f n p m C g tp → ∃ I1 J1, DM I1 J1 f n (tz f n p) m C g tp ∧ jgm I I1 ∧ (∀ k j, ¬ k = 76 → J1 k j = J k j) ∧ zM_readsWord I J = if (I1 76 23) = (1 : Int32) then (if (I1 76 25) ≤ (9 : Int32) then zM_readsWord_61 (I1 76 30) I1 J1 else (zM_wrong (2 : Int32) I1).bind fun q17 => zM_readsWord_61 (I1 76 30) q17 J1) else (zM_wrong (1 : Int32) I1).bind fun q18 => zM_readsWord_61 (I1 76 30) q18 J1 := fun I J tp hD => by
      obtain ⟨I1, J1, e1, d1, f1, j1⟩ := DM_next hD
      refine ⟨I1, J1, d1, f1, j1, ?_⟩
      unfold zM_readsWord zM_readsWord_14
      rw [if_pos (mA' I J tp hD), jm_good hD.2.1, Option.bind_some, if_pos (by decide), e1, Option.bind_some]
    have badM : ∀ (kd : Nat), 0 < kd → kd < 10 → (∀ I J tp, DM I J f n (tz f n p) m C g tp → (if (I 76 23) = (1 : Int32) then (if (I 76 25) ≤ (9 : Int32) then zM_readsWord_61 (I 76 30) I J else (zM_wrong (2 : Int32) I).bind fun q17 => zM_readsWord_61 (I 76 30) q17 J) else (zM_wrong (1 : Int32) I).bind fun q18 => zM_readsWord_61 (I 76 30) q18 J) = (zM_wrong (jn kd) I).bind fun q => zM_readsWord_61 (I 76 30) q J) → LpM fmWd f n p m C g (.inl (kd, ta f n (tz f n p))) := fun kd h1 h2 hx I J tp hD hs => by
      obtain ⟨I1, J1, d1, f1, j1, e1⟩ := mB1 I J tp hD
      obtain ⟨I2, e2, b2, fl, fr⟩ := jm_fl (J := J1) d1.1 d1.2.1 h1 h2
      refine ⟨(I2, J1), ?_, Flt_tr fl f1 j1⟩
      unfold fmWd
      rw [e1, hx I1 J1 tp d1, e2, Option.bind_some, jm_rw61b b2 (by omega) d1.2.2.1.2.2.1, Option.bind_some, jm_311b b2]
    by_cases t1 : tt f n (tz f n p) = 1
    · have tzB3 := tzB.2.2.1 (by rw [t1]; decide)
      by_cases l9 : tz f n (tz f n p) - ta f n (tz f n p) ≤ 9
      · have cB : ∀ I sz, DC I f n p m C g sz → ∃ I1, DC I1 f n (tz f n p) m C g sz ∧ frC I I1 ∧ zR_readWord I = (zR_isToldRow I1).bind fun q3 => if q3 = 0 then (zR_readWord_l77 (jn (tz f n (tz f n p) - ta f n (tz f n p))) ir_F ((0 : Int32), I1)).bind fun w6 => (zT_next w6).bind fun q7 => (zR_isNumberTo (7 : Int32) q7).bind fun q8 => if ¬ q8.1 = 0 then (zT_number q8.2).bind fun q9 => (zU_putWord (jn (tz f n (tz f n p) - ta f n (tz f n p))) q9 q8.2).bind fun q10 => (zT_next q10).bind fun q11 => wrp (zR_passLineEnd q11) else some ((0 : Int32), q8.2) else wrp (zR_refuse (4 : Int32) I1) := fun I sz hD => by
          have hn := hD.1.1.1
          obtain ⟨I1, e1, d1, f1⟩ := DC_next hD
          refine ⟨I1, d1, f1, ?_⟩
          have es : zT_size I1 = some (jn (tz f n (tz f n p) - ta f n (tz f n p))) := by
            unfold zT_size
            rw [d1.1.2.2.2.1, d1.1.2.2.2.2.2, jn_sub tzB.1]
          unfold zR_readWord
          rw [if_pos (cA I sz hD), e1, Option.bind_some, d1.1.2.2.1, if_pos (by rw [t1]; rfl), es, Option.bind_some, if_pos (by rw [jl9, jn_le (by omega) (by omega)]; exact l9)]
          rfl
        have mC : ∀ I J tp, DM I J f n p m C g tp → ∃ I1 J1, DM I1 J1 f n (tz f n p) m C g tp ∧ jgm I I1 ∧ (∀ k j, ¬ k = 76 → J1 k j = J k j) ∧ zM_readsWord I J = zM_readsWord_61 (jn (mW m)) I1 J1 := fun I J tp hD => by
          have hn := hD.1.1.1
          obtain ⟨I1, J1, d1, f1, j1, e1⟩ := mB1 I J tp hD
          refine ⟨I1, J1, d1, f1, j1, ?_⟩
          rw [e1, d1.1.2.2.2.2.1, if_pos (by rw [t1]; rfl), d1.1.2.2.2.2.2.2.1, if_pos (by rw [jl9, jn_le (by omega) (by omega)]; exact l9), d1.2.2.1.2.2.1]
        by_cases told : tdW m f n (tz f n p) = none
        · have cT : ∀ I sz, DC I f n (tz f n p) m C g sz → zR_isToldRow I = some 0 := fun I sz hD => (jc_isToldRow hm hD t1).trans (by rw [told]; rfl)
          by_cases z2 : nbr f n (tz f n (tz f n p)) 7 = 0
          · obtain ⟨tC2, lC, vC⟩ := nbr_z z2
            have tzC3 := tzC.2.2.1 (by rw [tC2]; decide)
            refine ⟨.inr (mWd1 m (tz f n (tz f n p) - ta f n (tz f n p)) (tn f n (tz f n (tz f n p))) (fun i => jn (f (ta f n (tz f n p) + i) - 96)), C, g, tz f n (tz f n (tz f n p))), ⟨dOk_wd hd hW l9 (by omega) (by omega), by omega, tzC.2.1⟩, fun I sz hD hs => ?_, fun I J tp hD hs => ?_⟩
            · obtain ⟨I1, d1, f1, e1⟩ := cB I sz hD
              obtain ⟨I2, e2, d2, l2, f2⟩ := jc_putLetters hm hW d1 t1 l9
              obtain ⟨I3, e3, d3, f3⟩ := DC_next d2
              have l3 : ∀ i, i < tz f n (tz f n p) - ta f n (tz f n p) → I3 47 (mW m * 9 + i) = jn (f (ta f n (tz f n p) + i) - 96) := fun i hi => by
                obtain ⟨I3', e3', c3', f3'⟩ := CL_next d2.1
                rw [e3] at e3'
                cases e3'
                rw [f3' _ _ (by decide), l2 i hi]
              rcases jc_isNumberTo d3.1 7 (by decide) with ⟨-, -, -, -, e4, e5⟩ | ⟨b1, -⟩
              · have e4 : zR_isNumberTo (7 : Int32) I3 = some (1, I3) := e4
                obtain ⟨I4, e6, d4, f4⟩ := jc_putWord (T := fun i => jn (f (ta f n (tz f n p) + i) - 96)) hW d3 (show tn f n (tz f n (tz f n p)) < 8 by omega) l9 l3
                obtain ⟨I5, e7, d5, f5⟩ := DC_next d4
                refine ⟨I5, sz, ?_, d5, by omega, frC_tr f1 (frC_tr f2 (frC_tr f3 (frC_tr f4 f5)))⟩
                rw [e1, cT I1 sz d1, Option.bind_some, if_pos rfl, e2, Option.bind_some, e3, Option.bind_some, e4, Option.bind_some, if_pos (show ¬ (1 : Int32) = 0 by decide)]
                dsimp only
                rw [e5, Option.bind_some, e6, Option.bind_some, e7, Option.bind_some]
              · omega
            · obtain ⟨I1, J1, d1, f1, j1, e1⟩ := mC I J tp hD
              have er := (jm_toldRow (J' := J1) hm d1 t1).1 told
              obtain ⟨I2, e2, d2, l88, l2, f2⟩ := jm_putLetters (J' := J1) hm hW d1 t1 l9
              obtain ⟨I3, J3, e3, m3, g3, j3⟩ := ML_next d2.1
              have d3 : DM I3 J3 f n (tz f n (tz f n p)) m C g tp := ⟨m3, by rw [g3 _ _ (by omega), d2.2.1], dN_f d2.2.2.1 (fun j q1 q2 => g3 _ _ (by omega)) (fun k j q => g3 _ _ (by omega)), dR_f d2.2.2.2 (g3 _ _ (by omega)) (fun k j q => g3 _ _ (by omega))⟩
              obtain ⟨I4, J4, e4, d4, f4, j4⟩ := (jm_numberD d3 7 (by decide)).1 z2
              have e4 : zM_number (0 : Int32) (7 : Int32) I3 J3 = some (jn (tn f n (tz f n (tz f n p))), I4, J4) := e4
              refine ⟨_, J4, tp, ?_, jm_putWord (k := tn f n (tz f n (tz f n p))) (T := fun i => jn (f (ta f n (tz f n p) + i) - 96)) d4 (l := tz f n (tz f n p) - ta f n (tz f n p)) (by rw [f4 _ _ (by omega), g3 _ _ (by omega), l88]) (fun i hi => by rw [f4 _ _ (by omega), g3 _ _ (by omega), l2 i hi]), by omega, jgm_up (jgm_up (jgm_tr f1 (jgm_tr f2 (jgm_tr (jgm_go g3) (jgm_go f4)))) rfl) rfl, fun k j q => by rw [j4 k j q, j3 k j q, j1 k j q]⟩
              have s30 : iq_upI I4 89 (mW m) (jn (tn f n (tz f n (tz f n p)))) 76 30 = jn (mW m) := by rw [up_nk (by decide), d4.2.2.1.2.2.1]
              have s18 : iq_upI I4 89 (mW m) (jn (tn f n (tz f n (tz f n p)))) 76 18 = 0 := by rw [up_nk (by decide), d4.2.1]
              unfold fmWd
              rw [e1]
              unfold zM_readsWord_61 zM_readsWord_94
              have i14 : iq_in (jn (mW m)) 14 := by rw [jn_in (by omega)]; exact hW
              rw [er, Option.bind_some, jm_good d1.2.1, Option.bind_some, if_pos (by decide)]
              simp only [if_pos i14, jn_clamp (show mW m < 2147483648 by omega)]
              rw [d1.1.2.2.2.2.2.2.1, ir_let, e2, Option.bind_some, e3, Option.bind_some]
              dsimp only
              rw [e4, Option.bind_some]
              dsimp only
              rw [ir_let, jm_good s18, Option.bind_some, if_neg (by decide), s30, show jn (mW m) + (1 : Int32) = jn (mW m + 1) from jn_add _ 1, ir_let, Option.bind_some]
          · have z2' : 0 < nbr f n (tz f n (tz f n p)) 7 := by omega
            refine ⟨.inl (nbr f n (tz f n (tz f n p)) 7, ta f n (tz f n (tz f n p))), ⟨z2', nbr_10, taC.2.1⟩, fun I sz hD hs => ?_, fun I J tp hD hs => ?_⟩
            · obtain ⟨I1, d1, f1, e1⟩ := cB I sz hD
              obtain ⟨I2, e2, d2, l2, f2⟩ := jc_putLetters hm hW d1 t1 l9
              obtain ⟨I3, e3, d3, f3⟩ := DC_next d2
              rcases jc_isNumberTo d3.1 7 (by decide) with ⟨b1, -⟩ | ⟨-, -, I4, e4, g1, g2, g3⟩
              · omega
              · have e4 : zR_isNumberTo (7 : Int32) I3 = some (0, I4) := e4
                refine ⟨I4, ?_, g1, g2, frC_tr f1 (frC_tr f2 (frC_tr f3 fun k j q => g3 k j (by omega)))⟩
                rw [e1, cT I1 sz d1, Option.bind_some, if_pos rfl, e2, Option.bind_some, e3, Option.bind_some, e4, Option.bind_some, if_neg (fun h => h rfl)]
            · obtain ⟨I1, J1, d1, f1, j1, e1⟩ := mC I J tp hD
              have er := (jm_toldRow (J' := J1) hm d1 t1).1 told
              obtain ⟨I2, e2, d2, l88, l2, f2⟩ := jm_putLetters (J' := J1) hm hW d1 t1 l9
              obtain ⟨I3, J3, e3, d3, f3, j3⟩ := DM_next d2
              obtain ⟨I4, e4, b4, fl⟩ := (jm_numberD d3 7 (by decide)).2 z2'
              have e4 : zM_number (0 : Int32) (7 : Int32) I3 J3 = some (0, I4, J3) := e4
              have b5 : ¬ iq_upI I4 89 (mW m) 0 76 18 = 0 := by rw [up_nk (by decide)]; exact b4
              have fl1 := Flt_tr (Flt_tr fl f3 j3) (jgm_tr f1 f2) j1
              refine ⟨(iq_upI I4 89 (mW m) 0, J3), ?_, fl1.1, fl1.2.1, jfz_up fl1.2.2.1 (Or.inl rfl), fl1.2.2.2⟩
              unfold fmWd
              rw [e1]
              unfold zM_readsWord_61 zM_readsWord_94
              have i14 : iq_in (jn (mW m)) 14 := by rw [jn_in (by omega)]; exact hW
              rw [er, Option.bind_some, jm_good d1.2.1, Option.bind_some, if_pos (by decide)]
              simp only [if_pos i14, jn_clamp (show mW m < 2147483648 by omega)]
              rw [d1.1.2.2.2.2.2.2.1, ir_let, e2, Option.bind_some, e3, Option.bind_some]
              dsimp only
              rw [e4, Option.bind_some]
              dsimp only
              rw [ir_let, jm_bad b5, Option.bind_some, if_pos rfl, Option.bind_some, jm_311b b5]
        · have cT : ∀ I sz, DC I f n (tz f n p) m C g sz → zR_isToldRow I = some 1 := fun I sz hD => (jc_isToldRow hm hD t1).trans (by
            cases q : tdW m f n (tz f n p) with
            | none => exact absurd q told
            | some k => rfl)
          refine ⟨.inl (4, ta f n (tz f n p)), ⟨by decide, by decide, taB.2.1⟩, fun I sz hD hs => ?_, fun I J tp hD hs => ?_⟩
          · obtain ⟨I1, d1, f1, e1⟩ := cB I sz hD
            obtain ⟨I2, e2, g1, g2, g3⟩ := jc_ref d1.1 4
            have e2 : wrp (zR_refuse (4 : Int32) I1) = some (0, I2) := e2
            refine ⟨I2, ?_, g1, g2, frC_tr f1 fun k j q => g3 k j (by omega)⟩
            rw [e1, cT I1 sz d1, Option.bind_some, if_neg (by decide), e2]
          · obtain ⟨I1, J1, d1, f1, j1, e1⟩ := mC I J tp hD
            obtain ⟨I2, e2, b2, fl⟩ := (jm_toldRow (J' := J1) hm d1 t1).2 told
            refine ⟨(I2, J1), ?_, Flt_tr fl f1 j1⟩
            unfold fmWd
            rw [e1]
            unfold zM_readsWord_61 zM_readsWord_94
            rw [e2, Option.bind_some, jm_bad b2, Option.bind_some, if_neg (fun h => h rfl), Option.bind_some, jm_311b b2]
      · refine ⟨.inl (2, ta f n (tz f n p)), ⟨by decide, by decide, taB.2.1⟩, fun I sz hD hs => ?_, badM 2 (by decide) (by decide) fun I J tp hD => ?_⟩
        · have hn := hD.1.1.1
          obtain ⟨I1, e1, d1, f1⟩ := DC_next hD
          obtain ⟨I2, e2, g1, g2, g3⟩ := jc_ref d1.1 2
          have es : zT_size I1 = some (jn (tz f n (tz f n p) - ta f n (tz f n p))) := by
            unfold zT_size
            rw [d1.1.2.2.2.1, d1.1.2.2.2.2.2, jn_sub tzB.1]
          refine ⟨I2, ?_, g1, g2, frC_tr f1 fun k j q => g3 k j (by omega)⟩
          unfold zR_readWord
          rw [if_pos (cA I sz hD), e1, Option.bind_some, d1.1.2.2.1, if_pos (by rw [t1]; rfl), es, Option.bind_some, if_neg (by rw [jl9, jn_le (by omega) (by omega)]; exact l9)]
          exact e2
        · have hn := hD.1.1.1
          rw [hD.1.2.2.2.2.1, if_pos (by rw [t1]; rfl), hD.1.2.2.2.2.2.2.1, if_neg (by rw [jl9, jn_le (by omega) (by omega)]; exact l9)]
          rfl
    · refine ⟨.inl (1, ta f n (tz f n p)), ⟨by decide, by decide, taB.2.1⟩, fun I sz hD hs => ?_, badM 1 (by decide) (by decide) fun I J tp hD => ?_⟩
      · obtain ⟨I1, e1, d1, f1⟩ := DC_next hD
        obtain ⟨I2, e2, g1, g2, g3⟩ := jc_ref d1.1 1
        refine ⟨I2, ?_, g1, g2, frC_tr f1 fun k j q => g3 k j (by omega)⟩
        unfold zR_readWord
        rw [if_pos (cA I sz hD), e1, Option.bind_some, d1.1.2.2.1, if_neg (by rw [jl1, jn_inj (by omega) (by omega)]; exact t1)]
        exact e2
      · rw [hD.1.2.2.2.2.1, if_neg (by rw [jl1, jn_inj (by omega) (by omega)]; exact t1)]
        rfl
  · have e14 : mW m = 14 := by omega
    refine ⟨.inl (2, ta f n p), ⟨by decide, by decide, ta1.2.1⟩, fun I sz hD hs => ?_, fun I J tp hD hs => ?_⟩
    · obtain ⟨I1, e1, g1, g2, g3⟩ := jc_ref hD.1 2
      refine ⟨I1, ?_, g1, g2, fun k j q => g3 k j (by omega)⟩
      unfold zR_readWord
      rw [hD.2.1.2.2.1, e14, if_neg (by decide)]
      exact e1
    · obtain ⟨I2, e2, b2, g2, -⟩ := jm_fl (J := J) hD.1 hD.2.1 (kd := 2) (by decide) (by decide)
      have e2 : zM_wrong (2 : Int32) I = some I2 := e2
      refine ⟨(I2, J), ?_, g2⟩
      unfold fmWd zM_readsWord zM_readsWord_14
      rw [hD.2.2.1.2.2.1, e14, if_neg (fun h => h rfl), e2, Option.bind_some, jm_bad b2, Option.bind_some, if_neg (fun h => h rfl), Option.bind_some, jm_311b b2]
