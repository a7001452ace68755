/-! ===== a line ===== -/
theorem LnC_w {fc fd : iq_I → Option (Int32 × iq_I)} {f : Nat → Nat} {n p : Nat} {m : jMu} {C : Nat → Bool} {g : jGa} {o : jLO} (h : LnC fc f n p m C g o) (e : ∀ I sz, DC I f n p m C g sz → fd I = wrp (fc I)) : LnC fd f n p m C g o := by
  intro I sz hD hs
  have q := h I sz hD hs
  have e := e I sz hD
  cases o with
  | inl ft =>
    obtain ⟨I', q1, q2⟩ := q
    exact ⟨I', by rw [e, q1, wrp_0], q2⟩
  | inr ok =>
    obtain ⟨I', sz', q1, q2⟩ := q
    exact ⟨I', sz', by rw [e, q1, wrp_1], q2⟩
theorem LnM_w {fc fd : iq_I → iq_J → Option (iq_I × iq_J)} {f : Nat → Nat} {n p : Nat} {m : jMu} {C : Nat → Bool} {g : jGa} {o : jLO} (h : LnM fc f n p m C g o) (e : ∀ I J tp, DM I J f n p m C g tp → fd I J = fc I J) : LnM fd f n p m C g o := by
  intro I J tp hD hs
  have q := h I J tp hD hs
  have e := e I J tp hD
  cases o with
  | inl ft =>
    obtain ⟨w, q1, q2⟩ := q
    exact ⟨w, by rw [e, q1], q2⟩
  | inr ok =>
    obtain ⟨I', J', tp', q1, q2⟩ := q
    exact ⟨I', J', tp', by rw [e, q1], q2⟩
theorem lineState {f : Nat → Nat} {n p : Nat} {m : jMu} {C : Nat → Bool} {g : jGa} (hn : n ≤ 700) (hp : p ≤ n) (hd : dOk m g) (hk : kw f n p = some 7) : ∃ o, LStL n p o ∧ LnC zR_readLine f n p m C g o ∧ LnM zM_line f n p m C g o := by
  obtain ⟨o, st, hc, hm⟩ := lineEnd (lnState hp hd hk)
  refine ⟨o, st, LnC_w hc fun I sz hD => ?_, LnM_w hm fun I J tp hD => ?_⟩
  · have e5002 : zT_isWord_62_5002 I = some 1 := by rw [jc_isW_5002 hD.1, hk]; rfl
    unfold zR_readLine
    rw [e5002, Option.bind_some, if_neg (by decide)]
    rfl
  · unfold zM_line
    rw [jm_knownWord hD.1, hk, jo_some, Option.bind_some, if_neg (show ¬ ¬ jn 7 = (7 : Int32) by decide)]
    rfl
theorem lineWord {f : Nat → Nat} {n p : Nat} {m : jMu} {C : Nat → Bool} {g : jGa} (hn : n ≤ 700) (hp : p ≤ n) (hd : dOk m g) (hk : kw f n p = some 2) : ∃ o, LStL n p o ∧ LnC zR_readLine f n p m C g o ∧ LnM zM_line f n p m C g o := by
  obtain ⟨o, st, hc, hm⟩ := lineEnd (lnWord hp hd hk)
  refine ⟨o, st, LnC_w hc fun I sz hD => ?_, LnM_w hm fun I J tp hD => ?_⟩
  · have e5002 : zT_isWord_62_5002 I = some 0 := by rw [jc_isW_5002 hD.1, hk]; rfl
    have e5004 : zT_isWord_62_5004 I = some 1 := by rw [jc_isW_5004 hD.1, hk]; rfl
    unfold zR_readLine
    rw [e5002, Option.bind_some, if_pos rfl, e5004, Option.bind_some, if_neg (by decide)]
    rfl
  · unfold zM_line
    rw [jm_knownWord hD.1, hk, jo_some, Option.bind_some, if_pos (show ¬ jn 2 = (7 : Int32) by decide), if_neg (show ¬ ¬ jn 2 = (2 : Int32) by decide)]
    rfl
theorem lineArc {f : Nat → Nat} {n p : Nat} {m : jMu} {C : Nat → Bool} {g : jGa} (hn : n ≤ 700) (hp : p ≤ n) (hd : dOk m g) (hk : kw f n p = some 9) : ∃ o, LStL n p o ∧ LnC zR_readLine f n p m C g o ∧ LnM zM_line f n p m C g o := by
  obtain ⟨o, st, hc, hm⟩ := lineEnd (lnArc hp hd hk)
  refine ⟨o, st, LnC_w hc fun I sz hD => ?_, LnM_w hm fun I J tp hD => ?_⟩
  · have e5002 : zT_isWord_62_5002 I = some 0 := by rw [jc_isW_5002 hD.1, hk]; rfl
    have e5004 : zT_isWord_62_5004 I = some 0 := by rw [jc_isW_5004 hD.1, hk]; rfl
    have e5005 : zT_isWord_62_5005 I = some 1 := by rw [jc_isW_5005 hD.1, hk]; rfl
    unfold zR_readLine
    rw [e5002, Option.bind_some, if_pos rfl, e5004, Option.bind_some, if_pos rfl, e5005, Option.bind_some, if_neg (by decide)]
    rfl
  · unfold zM_line
    rw [jm_knownWord hD.1, hk, jo_some, Option.bind_some, if_pos (show ¬ jn 9 = (7 : Int32) by decide), if_pos (show ¬ jn 9 = (2 : Int32) by decide), if_neg (show ¬ ¬ jn 9 = (9 : Int32) by decide)]
    rfl
theorem lineCost {f : Nat → Nat} {n p : Nat} {m : jMu} {C : Nat → Bool} {g : jGa} (hn : n ≤ 700) (hp : p ≤ n) (hd : dOk m g) (hk : kw f n p = some 10) : ∃ o, LStL n p o ∧ LnC zR_readLine f n p m C g o ∧ LnM zM_line f n p m C g o := by
  obtain ⟨o, st, hc, hm⟩ := lineEnd (lnCost hp hd hk)
  refine ⟨o, st, LnC_w hc fun I sz hD => ?_, LnM_w hm fun I J tp hD => ?_⟩
  · have e5002 : zT_isWord_62_5002 I = some 0 := by rw [jc_isW_5002 hD.1, hk]; rfl
    have e5004 : zT_isWord_62_5004 I = some 0 := by rw [jc_isW_5004 hD.1, hk]; rfl
    have e5005 : zT_isWord_62_5005 I = some 0 := by rw [jc_isW_5005 hD.1, hk]; rfl
    have e5006 : zT_isWord_62_5006 I = some 1 := by rw [jc_isW_5006 hD.1, hk]; rfl
    unfold zR_readLine
    rw [e5002, Option.bind_some, if_pos rfl, e5004, Option.bind_some, if_pos rfl, e5005, Option.bind_some, if_pos rfl, e5006, Option.bind_some, if_neg (by decide)]
    rfl
  · unfold zM_line
    rw [jm_knownWord hD.1, hk, jo_some, Option.bind_some, if_pos (show ¬ jn 10 = (7 : Int32) by decide), if_pos (show ¬ jn 10 = (2 : Int32) by decide), if_pos (show ¬ jn 10 = (9 : Int32) by decide), if_neg (show ¬ ¬ jn 10 = (10 : Int32) by decide)]
    rfl
theorem lineSaying {f : Nat → Nat} {n p : Nat} {m : jMu} {C : Nat → Bool} {g : jGa} (hn : n ≤ 700) (hp : p ≤ n) (hd : dOk m g) (hk : kw f n p = some 11) : ∃ o, LStL n p o ∧ LnC zR_readLine f n p m C g o ∧ LnM zM_line f n p m C g o := by
  obtain ⟨o, st, hc, hm⟩ := lineEnd (lnSaying hp hd hk)
  refine ⟨o, st, LnC_w hc fun I sz hD => ?_, LnM_w hm fun I J tp hD => ?_⟩
  · have e5002 : zT_isWord_62_5002 I = some 0 := by rw [jc_isW_5002 hD.1, hk]; rfl
    have e5004 : zT_isWord_62_5004 I = some 0 := by rw [jc_isW_5004 hD.1, hk]; rfl
    have e5005 : zT_isWord_62_5005 I = some 0 := by rw [jc_isW_5005 hD.1, hk]; rfl
    have e5006 : zT_isWord_62_5006 I = some 0 := by rw [jc_isW_5006 hD.1, hk]; rfl
    have e5007 : zT_isWord_62_5007 I = some 1 := by rw [jc_isW_5007 hD.1, hk]; rfl
    unfold zR_readLine
    rw [e5002, Option.bind_some, if_pos rfl, e5004, Option.bind_some, if_pos rfl, e5005, Option.bind_some, if_pos rfl, e5006, Option.bind_some, if_pos rfl, e5007, Option.bind_some, if_neg (by decide)]
    rfl
  · unfold zM_line
    rw [jm_knownWord hD.1, hk, jo_some, Option.bind_some, if_pos (show ¬ jn 11 = (7 : Int32) by decide), if_pos (show ¬ jn 11 = (2 : Int32) by decide), if_pos (show ¬ jn 11 = (9 : Int32) by decide), if_pos (show ¬ jn 11 = (10 : Int32) by decide), if_neg (show ¬ ¬ jn 11 = (11 : Int32) by decide)]
    rfl
theorem lineHabit {f : Nat → Nat} {n p : Nat} {m : jMu} {C : Nat → Bool} {g : jGa} (hn : n ≤ 700) (hp : p ≤ n) (hd : dOk m g) (hk : kw f n p = some 12) : ∃ o, LStL n p o ∧ LnC zR_readLine f n p m C g o ∧ LnM zM_line f n p m C g o := by
  obtain ⟨o, st, hc, hm⟩ := lineEnd (lnHabit hn hp hd hk)
  refine ⟨o, st, LnC_w hc fun I sz hD => ?_, LnM_w hm fun I J tp hD => ?_⟩
  · have e5002 : zT_isWord_62_5002 I = some 0 := by rw [jc_isW_5002 hD.1, hk]; rfl
    have e5004 : zT_isWord_62_5004 I = some 0 := by rw [jc_isW_5004 hD.1, hk]; rfl
    have e5005 : zT_isWord_62_5005 I = some 0 := by rw [jc_isW_5005 hD.1, hk]; rfl
    have e5006 : zT_isWord_62_5006 I = some 0 := by rw [jc_isW_5006 hD.1, hk]; rfl
    have e5007 : zT_isWord_62_5007 I = some 0 := by rw [jc_isW_5007 hD.1, hk]; rfl
    have e5008 : zT_isWord_62_5008 I = some 1 := by rw [jc_isW_5008 hD.1, hk]; rfl
    unfold zR_readLine
    rw [e5002, Option.bind_some, if_pos rfl, e5004, Option.bind_some, if_pos rfl, e5005, Option.bind_some, if_pos rfl, e5006, Option.bind_some, if_pos rfl, e5007, Option.bind_some, if_pos rfl, e5008, Option.bind_some, if_neg (by decide)]
    rfl
  · unfold zM_line
    rw [jm_knownWord hD.1, hk, jo_some, Option.bind_some, if_pos (show ¬ jn 12 = (7 : Int32) by decide), if_pos (show ¬ jn 12 = (2 : Int32) by decide), if_pos (show ¬ jn 12 = (9 : Int32) by decide), if_pos (show ¬ jn 12 = (10 : Int32) by decide), if_pos (show ¬ jn 12 = (11 : Int32) by decide), if_neg (show ¬ ¬ jn 12 = (12 : Int32) by decide)]
    rfl
theorem lineLaw {f : Nat → Nat} {n p : Nat} {m : jMu} {C : Nat → Bool} {g : jGa} (hn : n ≤ 700) (hp : p ≤ n) (hd : dOk m g) (hk : kw f n p = some 13) : ∃ o, LStL n p o ∧ LnC zR_readLine f n p m C g o ∧ LnM zM_line f n p m C g o := by
  obtain ⟨o, st, hc, hm⟩ := lineEnd (lnLaw hn hp hd hk)
  refine ⟨o, st, LnC_w hc fun I sz hD => ?_, LnM_w hm fun I J tp hD => ?_⟩
  · have e5002 : zT_isWord_62_5002 I = some 0 := by rw [jc_isW_5002 hD.1, hk]; rfl
    have e5004 : zT_isWord_62_5004 I = some 0 := by rw [jc_isW_5004 hD.1, hk]; rfl
    have e5005 : zT_isWord_62_5005 I = some 0 := by rw [jc_isW_5005 hD.1, hk]; rfl
    have e5006 : zT_isWord_62_5006 I = some 0 := by rw [jc_isW_5006 hD.1, hk]; rfl
    have e5007 : zT_isWord_62_5007 I = some 0 := by rw [jc_isW_5007 hD.1, hk]; rfl
    have e5008 : zT_isWord_62_5008 I = some 0 := by rw [jc_isW_5008 hD.1, hk]; rfl
    have e5018 : zT_isWord_62_5018 I = some 1 := by rw [jc_isW_5018 hD.1, hk]; rfl
    unfold zR_readLine
    rw [e5002, Option.bind_some, if_pos rfl, e5004, Option.bind_some, if_pos rfl, e5005, Option.bind_some, if_pos rfl, e5006, Option.bind_some, if_pos rfl, e5007, Option.bind_some, if_pos rfl, e5008, Option.bind_some, if_pos rfl, e5018, Option.bind_some, if_neg (by decide)]
    rfl
  · unfold zM_line
    rw [jm_knownWord hD.1, hk, jo_some, Option.bind_some, if_pos (show ¬ jn 13 = (7 : Int32) by decide), if_pos (show ¬ jn 13 = (2 : Int32) by decide), if_pos (show ¬ jn 13 = (9 : Int32) by decide), if_pos (show ¬ jn 13 = (10 : Int32) by decide), if_pos (show ¬ jn 13 = (11 : Int32) by decide), if_pos (show ¬ jn 13 = (12 : Int32) by decide), if_neg (show ¬ ¬ jn 13 = (13 : Int32) by decide)]
    rfl
theorem lineJ {f : Nat → Nat} {n p : Nat} {m : jMu} {C : Nat → Bool} {g : jGa} (hn : n ≤ 700) (hp : p ≤ n) (hd : dOk m g) : ∃ o, LStL n p o ∧ LnC zR_readLine f n p m C g o ∧ LnM zM_line f n p m C g o := by
  by_cases k7 : kw f n p = some 7
  · exact lineState hn hp hd k7
  by_cases k2 : kw f n p = some 2
  · exact lineWord hn hp hd k2
  by_cases k9 : kw f n p = some 9
  · exact lineArc hn hp hd k9
  by_cases k10 : kw f n p = some 10
  · exact lineCost hn hp hd k10
  by_cases k11 : kw f n p = some 11
  · exact lineSaying hn hp hd k11
  by_cases k12 : kw f n p = some 12
  · exact lineHabit hn hp hd k12
  by_cases k13 : kw f n p = some 13
  · exact lineLaw hn hp hd k13
  have ta1 := ta_sp (f := f) hp
  refine ⟨.inl (1, ta f n p), ⟨by decide, by decide, ta1.2.1⟩, fun I sz hD hs => ?_, fun I J tp hD hs => ?_⟩
  · obtain ⟨I2, e2, g1, g2, g3⟩ := jc_ref hD.1 1
    have e5002 : zT_isWord_62_5002 I = some 0 := by rw [jc_isW_5002 hD.1, decide_eq_false k7]; rfl
    have e5004 : zT_isWord_62_5004 I = some 0 := by rw [jc_isW_5004 hD.1, decide_eq_false k2]; rfl
    have e5005 : zT_isWord_62_5005 I = some 0 := by rw [jc_isW_5005 hD.1, decide_eq_false k9]; rfl
    have e5006 : zT_isWord_62_5006 I = some 0 := by rw [jc_isW_5006 hD.1, decide_eq_false k10]; rfl
    have e5007 : zT_isWord_62_5007 I = some 0 := by rw [jc_isW_5007 hD.1, decide_eq_false k11]; rfl
    have e5008 : zT_isWord_62_5008 I = some 0 := by rw [jc_isW_5008 hD.1, decide_eq_false k12]; rfl
    have e5018 : zT_isWord_62_5018 I = some 0 := by rw [jc_isW_5018 hD.1, decide_eq_false k13]; rfl
    refine ⟨I2, ?_, g1, g2, fun k j q => g3 k j (by omega)⟩
    unfold zR_readLine
    rw [e5002, Option.bind_some, if_pos rfl, e5004, Option.bind_some, if_pos rfl, e5005, Option.bind_some, if_pos rfl, e5006, Option.bind_some, if_pos rfl, e5007, Option.bind_some, if_pos rfl, e5008, Option.bind_some, if_pos rfl, e5018, Option.bind_some, if_pos rfl]
    exact e2
  · obtain ⟨I2, e2, b2, g2, -⟩ := jm_fl (J := J) hD.1 hD.2.1 (kd := 1) (by decide) (by decide)
    have e2 : zM_wrong (1 : Int32) I = some I2 := e2
    refine ⟨(I2, J), ?_, g2⟩
    have ne : ∀ K, K < 17 → ¬ kw f n p = some K → ¬ jo (kw f n p) = jn K := fun K hK h => by
      cases e : kw f n p with
      | none => exact fun q => jn_ne (n := K) (by omega) (by decide) q.symm
      | some k =>
        have k17 := (kw_lt e).1
        rw [e] at h
        rw [jo_some, jn_inj (by omega) (by omega)]
        exact fun q => h (by rw [q])
    unfold zM_line
    rw [jm_knownWord hD.1, Option.bind_some, if_pos (show ¬ jo (kw f n p) = (7 : Int32) from ne 7 (by decide) k7), if_pos (show ¬ jo (kw f n p) = (2 : Int32) from ne 2 (by decide) k2), if_pos (show ¬ jo (kw f n p) = (9 : Int32) from ne 9 (by decide) k9), if_pos (show ¬ jo (kw f n p) = (10 : Int32) from ne 10 (by decide) k10), if_pos (show ¬ jo (kw f n p) = (11 : Int32) from ne 11 (by decide) k11), if_pos (show ¬ jo (kw f n p) = (12 : Int32) from ne 12 (by decide) k12), if_pos (show ¬ jo (kw f n p) = (13 : Int32) from ne 13 (by decide) k13), e2, Option.bind_some, jm_311b b2]
