/-! ===== the methods as pure functions (printed by wip/whole/emitall.py, split.py) ===== -/
def zM_measures_33 (x1 : Int32) (s1 : Int32) (s2 : Int32) (I : iq_I) : Option ((Int32 × iq_I) ⊕ (iq_I)) :=
  if iq_in s1 10 then (
    ir_let (iq_upI I 103 (Int32.toNatClampNeg s1) s2) fun I1 =>
    some (.inl ((x1 + (1 : Int32)), I1))) else none
def zM_measures_l2_b   (x1 : Int32) (I : iq_I) : Option ((Int32 × iq_I) ⊕ (iq_I)) :=
  if (I 76 1) ≤ x1 then (
    some (.inr I)) else (
    if ¬ (((I 76 7) >>> (x1 &&& 31)) &&& (1 : Int32)) = (1 : Int32) then (
      zM_measures_33 x1 x1 (99 : Int32) I) else (
      zM_measures_33 x1 x1 (0 : Int32) I))
def zM_measures_l2   (n : Nat) (v : Int32 × iq_I) : Option (iq_I) := iq_lp (fun v => zM_measures_l2_b  v.1 v.2) n v
def zM_measures_l62_b (x1 : Int32) (x2 : Int32)  (x3 : Int32) (I : iq_I) : Option ((Int32 × iq_I) ⊕ (iq_I)) :=
  if (I 76 2) ≤ x3 then (
    some (.inr I)) else (
    (zM_leads x2 x3 I).bind fun q3 =>
    if q3 = (-1 : Int32) then (
      some (.inl ((x3 + (1 : Int32)), I))) else (
      (zM_leads x2 x3 I).bind fun q4 =>
      if iq_in q4 10 then (
        if iq_in x2 10 then (
          if (I 103 (Int32.toNatClampNeg x2)) ≤ ((I 103 (Int32.toNatClampNeg q4)) + (1 : Int32)) then (
            some (.inl ((x3 + (1 : Int32)), I))) else (
            (zM_leads x2 x3 I).bind fun q5 =>
            if iq_in q5 10 then (
              if iq_in x2 10 then (
                ir_let (iq_upI I 103 (Int32.toNatClampNeg x2) ((I 103 (Int32.toNatClampNeg q5)) + (1 : Int32))) fun I6 =>
                some (.inl ((x3 + (1 : Int32)), I6))) else none) else none)) else none) else none))
def zM_measures_l62 (x1 : Int32) (x2 : Int32)  (n : Nat) (v : Int32 × iq_I) : Option (iq_I) := iq_lp (fun v => zM_measures_l62_b x1 x2 v.1 v.2) n v
def zM_measures_l52_b (x1 : Int32)  (x2 : Int32) (I : iq_I) : Option ((Int32 × iq_I) ⊕ (iq_I)) :=
  if (I 76 1) ≤ x2 then (
    some (.inr I)) else (
    (zM_measures_l62 x1 x2 ir_F ((0 : Int32), I)).bind fun w7 =>
    some (.inl ((x2 + (1 : Int32)), w7)))
def zM_measures_l52 (x1 : Int32)  (n : Nat) (v : Int32 × iq_I) : Option (iq_I) := iq_lp (fun v => zM_measures_l52_b x1 v.1 v.2) n v
def zM_measures_l42_b   (x1 : Int32) (I : iq_I) : Option ((Int32 × iq_I) ⊕ (iq_I)) :=
  if (I 76 1) ≤ x1 then (
    some (.inr I)) else (
    (zM_measures_l52 x1 ir_F ((0 : Int32), I)).bind fun w8 =>
    some (.inl ((x1 + (1 : Int32)), w8)))
def zM_measures_l42   (n : Nat) (v : Int32 × iq_I) : Option (iq_I) := iq_lp (fun v => zM_measures_l42_b  v.1 v.2) n v
def zM_measures  (I : iq_I) : Option (iq_I) :=
  (zM_measures_l2  ir_F ((0 : Int32), I)).bind fun w2 =>
  (zM_measures_l42  ir_F ((0 : Int32), w2)).bind fun w9 =>
  some w9
def zM_soonest_l88_b (x2 : Int32) (x3 : Int32) (x5 : Int32) (I : iq_I) (x6 : Int32)  : Option ((Int32) ⊕ (Int32)) :=
  (zM_leads x3 x6 I).bind fun q5 =>
  if q5 = (-1 : Int32) then (
    some (.inl (x6 + (1 : Int32)))) else (
    (zM_leads x3 x6 I).bind fun q6 =>
    if iq_in q6 10 then (
      if iq_in x3 10 then (
        if ((I 103 (Int32.toNatClampNeg q6)) + (1 : Int32)) = (I 103 (Int32.toNatClampNeg x3)) then (
          some (.inr x6)) else (
          some (.inl (x6 + (1 : Int32))))) else none) else none)
def zM_soonest_l88 (x2 : Int32) (x3 : Int32) (x5 : Int32) (I : iq_I) (n : Nat) (v : Int32) : Option (Int32) := iq_lp (fun v => zM_soonest_l88_b x2 x3 x5 I v) n v
def zM_soonest_l70_b (x2 : Int32) (I : iq_I) (x3 : Int32) (x5 : Int32)  : Option ((Int32 × Int32) ⊕ ((Unit) ⊕ (Int32 × iq_I))) :=
  if x2 < x5 then (
    some (.inr (.inl ()))) else (
    if iq_in x3 10 then (
      if (I 103 (Int32.toNatClampNeg x3)) ≤ 0 then (
        some (.inr (.inl ()))) else (
        (zM_soonest_l88 x2 x3 x5 I ir_F (0 : Int32)).bind fun w7 =>
        (zM_leads x3 w7 I).bind fun q8 =>
        if ¬ x5 = x2 then (
          some (.inl (q8, (x5 + (1 : Int32))))) else (
          some (.inr (.inr (w7, I)))))) else none)
def zM_soonest_l70 (x2 : Int32) (I : iq_I) (n : Nat) (v : Int32 × Int32) : Option ((Unit) ⊕ (Int32 × iq_I)) := iq_lp (fun v => zM_soonest_l70_b x2 I v.1 v.2) n v
def zM_soonest_24 (x1 : Int32) (x2 : Int32) (s1 : Int32) (I : iq_I) : Option (Int32 × iq_I) :=
  (zM_right s1 (1 : Int32) I).bind fun q3 =>
  if ¬ q3.1 = 0 then (
    (zM_measures q3.2).bind fun q4 =>
    if iq_in x1 10 then (
      if (q4 103 (Int32.toNatClampNeg x1)) < (99 : Int32) then (
        if ¬ x2 = (-1 : Int32) then (
          (zM_soonest_l70 x2 q4 ir_F (x1, (0 : Int32))).bind fun w9 =>
          ir_sm w9 (fun a10 =>
            some ((-1 : Int32), q4)) (fun b11 => some b11)) else (
          if iq_in x1 10 then (
            some ((q4 103 (Int32.toNatClampNeg x1)), q4)) else none)) else (
        some ((-1 : Int32), q4))) else none) else (
    some ((0 : Int32), q3.2))
def zM_soonest (x1 : Int32) (x2 : Int32) (I : iq_I) : Option (Int32 × iq_I) :=
  ir_let (iq_upI I 76 0 (0 : Int32)) fun I1 =>
  (zM_isState x1 I1).bind fun q2 =>
  if q2.1 = 0 then (
    some ((0 : Int32), q2.2)) else (
    if x2 < (-1 : Int32) then (
      zM_soonest_24 x1 x2 (0 : Int32) q2.2) else (
      zM_soonest_24 x1 x2 (1 : Int32) q2.2))
def zP_keptOpen (x1 : Int32) (I : iq_I) : Option (Int32 × iq_I) :=
  (zP_lookBehind (0 : Int32) I).bind fun q1 =>
  (zP_allStates q1).bind fun q2 =>
  (zP_longestWithin x1 q2 q1).bind fun q3 =>
  some (q3, q1)
def zO_open (x1 : Int32) (I : iq_I) (X : iq_X) : Option ((Int32 ⊕ Nat) × iq_I × iq_X) :=
  (zO_needState x1 I X).bind fun q1 =>
  iq_sm q1.1 (fun a2 =>
    (zP_keptOpen x1 I).bind fun q4 =>
    some (.inl q4.1, q4.2, q1.2)) (fun k3 => some (.inr k3, I, q1.2))
def zL_open (x1 : Int32) (I : iq_I) (J : iq_J) (X : iq_X) : Option (Int32 × iq_I × iq_J × iq_X) :=
  (zO_open x1 I X).bind fun q1 =>
  iq_sm q1.1 (fun a2 =>
    ir_let (iq_upJ J 114 0 (Int32.toInt64 a2)) fun J4 =>
    some ((0 : Int32), q1.2.1, J4, q1.2.2)) (fun k3 => if k3 = 0 then (
    some ((1 : Int32), q1.2.1, J, q1.2.2)) else (
  if k3 = 1 then (
    none) else none))
def zM_open (x1 : Int32) (I : iq_I) : Option (Int32 × iq_I) :=
  ir_let (iq_upI I 76 0 (0 : Int32)) fun I1 =>
  (zM_isState x1 I1).bind fun q2 =>
  if q2.1 = 0 then (
    some ((0 : Int32), q2.2)) else (
    (zM_follows x1 q2.2).bind fun q3 =>
    some (q3, q2.2))
def zG_takeOut (x1 : Int32) (x2 : Int32) (I : iq_I) : Option (Int32 × iq_I) :=
  (zG_lengthOf_16 x1 I).bind fun q1 =>
  if x2 < 0 then (
    some ((-1 : Int32), I)) else (
    if x2 < q1 then (
      if iq_in ((x1 * (40 : Int32)) + x2) 200 then (
        if 0 ≤ (((x1 * (40 : Int32)) + x2) + (1 : Int32)) ∧ 0 ≤ ((x1 * (40 : Int32)) + x2) ∧ 0 ≤ ((q1 - x2) - (1 : Int32)) ∧ Int32.toNatClampNeg (((x1 * (40 : Int32)) + x2) + (1 : Int32)) + Int32.toNatClampNeg ((q1 - x2) - (1 : Int32)) ≤ 200 ∧ Int32.toNatClampNeg ((x1 * (40 : Int32)) + x2) + Int32.toNatClampNeg ((q1 - x2) - (1 : Int32)) ≤ 200 then (
          ir_let (iq_cpI I 24 24 (Int32.toNatClampNeg (((x1 * (40 : Int32)) + x2) + (1 : Int32))) (Int32.toNatClampNeg ((x1 * (40 : Int32)) + x2)) (Int32.toNatClampNeg ((q1 - x2) - (1 : Int32)))) fun I2 =>
          if iq_in x1 5 then (
            ir_let (iq_upI I2 18 (Int32.toNatClampNeg x1) (q1 - (1 : Int32))) fun I3 =>
            some ((I 24 (Int32.toNatClampNeg ((x1 * (40 : Int32)) + x2))), I3)) else none) else none) else none) else (
      some ((-1 : Int32), I)))
def zG_putIn_16 (x1 : Int32) (x2 : Int32) (x3 : Int32) (I : iq_I) : Option (iq_I) :=
  (zG_lengthOf_16 x1 I).bind fun q1 =>
  if x1 < 0 then (
    some I) else (
    if (I 16 0) ≤ x1 then (
      some I) else (
      if (40 : Int32) ≤ q1 then (
        some I) else (
        if x2 < 0 then (
          some I) else (
          if x2 ≤ q1 then (
            if 0 ≤ ((x1 * (40 : Int32)) + x2) ∧ 0 ≤ (((x1 * (40 : Int32)) + x2) + (1 : Int32)) ∧ 0 ≤ (q1 - x2) ∧ Int32.toNatClampNeg ((x1 * (40 : Int32)) + x2) + Int32.toNatClampNeg (q1 - x2) ≤ 200 ∧ Int32.toNatClampNeg (((x1 * (40 : Int32)) + x2) + (1 : Int32)) + Int32.toNatClampNeg (q1 - x2) ≤ 200 then (
              ir_let (iq_cpI I 24 24 (Int32.toNatClampNeg ((x1 * (40 : Int32)) + x2)) (Int32.toNatClampNeg (((x1 * (40 : Int32)) + x2) + (1 : Int32))) (Int32.toNatClampNeg (q1 - x2))) fun I2 =>
              if iq_in ((x1 * (40 : Int32)) + x2) 200 then (
                ir_let (iq_upI I2 24 (Int32.toNatClampNeg ((x1 * (40 : Int32)) + x2)) x3) fun I3 =>
                if iq_in x1 5 then (
                  ir_let (iq_upI I3 18 (Int32.toNatClampNeg x1) (q1 + (1 : Int32))) fun I4 =>
                  some I4) else none) else none) else none) else (
            some I)))))
def zG_undoLast  (I : iq_I) : Option (Int32 × iq_I) :=
  if 0 < (I 19 0) then (
    ir_let (iq_upI I 19 0 ((I 19 0) - (1 : Int32))) fun I1 =>
    if iq_in (I1 19 0) 40 then (
      if ¬ (I1 20 (Int32.toNatClampNeg (I1 19 0))) = 0 then (
        if iq_in (I1 19 0) 40 then (
          if ¬ (I1 20 (Int32.toNatClampNeg (I1 19 0))) = (1 : Int32) then (
            ir_let (iq_upI I1 16 1 ((((I1 16 1) + (7 : Int32)) - (1 : Int32)) - (((I1 16 1) + (7 : Int32)) - (1 : Int32)) / (7 : Int32) * (7 : Int32))) fun I2 =>
            some ((I1 19 0), I2)) else (
            if iq_in (I1 19 0) 40 then (
              if iq_in (I1 19 0) 40 then (
                if iq_in (I1 19 0) 40 then (
                  (zG_putIn_16 (I1 21 (Int32.toNatClampNeg (I1 19 0))) (I1 22 (Int32.toNatClampNeg (I1 19 0))) (I1 23 (Int32.toNatClampNeg (I1 19 0))) I1).bind fun q3 =>
                  some ((I1 19 0), q3)) else none) else none) else none)) else none) else (
        if iq_in (I1 19 0) 40 then (
          if iq_in (I1 19 0) 40 then (
            (zG_takeOut (I1 21 (Int32.toNatClampNeg (I1 19 0))) (I1 22 (Int32.toNatClampNeg (I1 19 0))) I1).bind fun q4 =>
            some ((I1 19 0), q4.2)) else none) else none)) else none) else (
    some ((-1 : Int32), I))
def zO_undo  (I : iq_I) : Option (Int32 × iq_I) :=
  (zG_undoLast I).bind fun q1 =>
  some (q1.1, q1.2)
def zM_undo_l26_b   (x1 : Int32) (I : iq_I) : Option ((Int32 × iq_I) ⊕ (iq_I)) :=
  if (206 : Int32) ≤ x1 then (
    some (.inr I)) else (
    if iq_in (((206 : Int32) * (I 76 54)) + x1) 8240 then (
      if iq_in x1 206 then (
        ir_let (iq_upI I 98 (Int32.toNatClampNeg x1) (I 100 (Int32.toNatClampNeg (((206 : Int32) * (I 76 54)) + x1)))) fun I3 =>
        some (.inl ((x1 + (1 : Int32)), I3))) else none) else none)
def zM_undo_l26   (n : Nat) (v : Int32 × iq_I) : Option (iq_I) := iq_lp (fun v => zM_undo_l26_b  v.1 v.2) n v
def zM_undo  (I : iq_I) : Option (Int32 × iq_I) :=
  ir_let (iq_upI I 76 0 (0 : Int32)) fun I1 =>
  if ¬ (I1 76 54) = 0 then (
    ir_let (iq_upI I1 76 54 ((I1 76 54) - (1 : Int32))) fun I2 =>
    (zM_undo_l26  ir_F ((0 : Int32), I2)).bind fun w4 =>
    some ((w4 76 54), w4)) else (
    some ((-1 : Int32), I1))
def zG_nextDay_16  (I : iq_I) : Option (iq_I) :=
  ir_let (iq_upI I 16 1 (((I 16 1) + (1 : Int32)) - ((I 16 1) + (1 : Int32)) / (7 : Int32) * (7 : Int32))) fun I1 =>
  some I1
def zA_forgetOldest  (I : iq_I) : Option (iq_I) :=
  ir_let (iq_upI I 19 0 (39 : Int32)) fun I1 =>
  if 0 ≤ (1 : Int32) ∧ 0 ≤ (0 : Int32) ∧ 0 ≤ (I1 19 0) ∧ Int32.toNatClampNeg (1 : Int32) + Int32.toNatClampNeg (I1 19 0) ≤ 40 ∧ Int32.toNatClampNeg (0 : Int32) + Int32.toNatClampNeg (I1 19 0) ≤ 40 then (
    ir_let (iq_cpI I1 20 20 1 0 (Int32.toNatClampNeg (I1 19 0))) fun I2 =>
    if 0 ≤ (1 : Int32) ∧ 0 ≤ (0 : Int32) ∧ 0 ≤ (I2 19 0) ∧ Int32.toNatClampNeg (1 : Int32) + Int32.toNatClampNeg (I2 19 0) ≤ 40 ∧ Int32.toNatClampNeg (0 : Int32) + Int32.toNatClampNeg (I2 19 0) ≤ 40 then (
      ir_let (iq_cpI I2 21 21 1 0 (Int32.toNatClampNeg (I2 19 0))) fun I3 =>
      if 0 ≤ (1 : Int32) ∧ 0 ≤ (0 : Int32) ∧ 0 ≤ (I3 19 0) ∧ Int32.toNatClampNeg (1 : Int32) + Int32.toNatClampNeg (I3 19 0) ≤ 40 ∧ Int32.toNatClampNeg (0 : Int32) + Int32.toNatClampNeg (I3 19 0) ≤ 40 then (
        ir_let (iq_cpI I3 22 22 1 0 (Int32.toNatClampNeg (I3 19 0))) fun I4 =>
        if 0 ≤ (1 : Int32) ∧ 0 ≤ (0 : Int32) ∧ 0 ≤ (I4 19 0) ∧ Int32.toNatClampNeg (1 : Int32) + Int32.toNatClampNeg (I4 19 0) ≤ 40 ∧ Int32.toNatClampNeg (0 : Int32) + Int32.toNatClampNeg (I4 19 0) ≤ 40 then (
          ir_let (iq_cpI I4 23 23 1 0 (Int32.toNatClampNeg (I4 19 0))) fun I5 =>
          some I5) else none) else none) else none) else none
def zA_keep_13 (x1 : Int32) (x2 : Int32) (x3 : Int32) (x4 : Int32) (I : iq_I) : Option (iq_I) :=
  if iq_in (I 19 0) 40 then (
    ir_let (iq_upI I 20 (Int32.toNatClampNeg (I 19 0)) x1) fun I1 =>
    if iq_in (I1 19 0) 40 then (
      ir_let (iq_upI I1 21 (Int32.toNatClampNeg (I1 19 0)) x2) fun I2 =>
      if iq_in (I2 19 0) 40 then (
        ir_let (iq_upI I2 22 (Int32.toNatClampNeg (I2 19 0)) x3) fun I3 =>
        if iq_in (I3 19 0) 40 then (
          ir_let (iq_upI I3 23 (Int32.toNatClampNeg (I3 19 0)) x4) fun I4 =>
          ir_let (iq_upI I4 19 0 ((I4 19 0) + (1 : Int32))) fun I5 =>
          some I5) else none) else none) else none) else none
def zA_keep (x1 : Int32) (x2 : Int32) (x3 : Int32) (x4 : Int32) (I : iq_I) : Option (iq_I) :=
  if (I 19 0) < (40 : Int32) then (
    zA_keep_13 x1 x2 x3 x4 I) else (
    (zA_forgetOldest I).bind fun q6 =>
    zA_keep_13 x1 x2 x3 x4 q6)
def zO_day  (I : iq_I) : Option (Int32 × iq_I) :=
  (zG_nextDay_16 I).bind fun q1 =>
  (zA_keep (2 : Int32) (0 : Int32) (0 : Int32) (0 : Int32) q1).bind fun q2 =>
  some ((q2 16 1), q2)
def zM_keeps_l54_b   (x1 : Int32) (I : iq_I) : Option ((Int32 × iq_I) ⊕ (iq_I)) :=
  if (206 : Int32) ≤ x1 then (
    some (.inr I)) else (
    if iq_in x1 206 then (
      if iq_in (((206 : Int32) * (I 76 54)) + x1) 8240 then (
        ir_let (iq_upI I 100 (Int32.toNatClampNeg (((206 : Int32) * (I 76 54)) + x1)) (I 98 (Int32.toNatClampNeg x1))) fun I1 =>
        some (.inl ((x1 + (1 : Int32)), I1))) else none) else none)
def zM_keeps_l54   (n : Nat) (v : Int32 × iq_I) : Option (iq_I) := iq_lp (fun v => zM_keeps_l54_b  v.1 v.2) n v
def zM_keeps_52  (I : iq_I) : Option (iq_I) :=
  (zM_keeps_l54  ir_F ((0 : Int32), I)).bind fun w2 =>
  ir_let (iq_upI w2 76 54 ((w2 76 54) + (1 : Int32))) fun I3 =>
  some I3
def zM_keeps_l13_b   (x1 : Int32) (I : iq_I) : Option ((Int32 × iq_I) ⊕ (iq_I)) :=
  if (8240 : Int32) ≤ x1 then (
    some (.inr I)) else (
    if iq_in x1 8240 then (
      if iq_in (x1 - (206 : Int32)) 8240 then (
        ir_let (iq_upI I 100 (Int32.toNatClampNeg (x1 - (206 : Int32))) (I 100 (Int32.toNatClampNeg x1))) fun I4 =>
        some (.inl ((x1 + (1 : Int32)), I4))) else none) else none)
def zM_keeps_l13   (n : Nat) (v : Int32 × iq_I) : Option (iq_I) := iq_lp (fun v => zM_keeps_l13_b  v.1 v.2) n v
def zM_keeps  (I : iq_I) : Option (iq_I) :=
  if ¬ (I 76 54) = (40 : Int32) then (
    zM_keeps_52 I) else (
    (zM_keeps_l13  ir_F ((206 : Int32), I)).bind fun w5 =>
    ir_let (iq_upI w5 76 54 ((w5 76 54) - (1 : Int32))) fun I6 =>
    zM_keeps_52 I6)
def zM_day  (I : iq_I) : Option (Int32 × iq_I) :=
  ir_let (iq_upI I 76 0 (0 : Int32)) fun I1 =>
  (zM_keeps I1).bind fun q2 =>
  ir_let (iq_upI q2 98 5 (((q2 98 5) + (1 : Int32)) - ((q2 98 5) + (1 : Int32)) / (7 : Int32) * (7 : Int32))) fun I3 =>
  some ((I3 98 5), I3)
def zO_refuseAct  (I : iq_I) : Option (Int32 × iq_I) :=
  ir_let (iq_upI I 3 1 ((I 3 1) + (1 : Int32))) fun I1 =>
  some ((-1 : Int32), I1)
def zO_take_22  (I : iq_I) (X : iq_X) : Option ((Int32 ⊕ Nat) × iq_I × iq_X) :=
  (zO_refuseAct I).bind fun q4 =>
  some (.inl q4.1, q4.2, X)
def zO_take (x1 : Int32) (x2 : Int32) (I : iq_I) (X : iq_X) : Option ((Int32 ⊕ Nat) × iq_I × iq_X) :=
  (zO_needSaying x1 I X).bind fun q1 =>
  iq_sm q1.1 (fun a2 =>
    if x2 < 0 then (
      zO_take_22 I q1.2) else (
      if iq_in x1 5 then (
        if x2 < (I 18 (Int32.toNatClampNeg x1)) then (
          (zG_takeOut x1 x2 I).bind fun q5 =>
          (zA_keep (1 : Int32) x1 x2 q5.1 q5.2).bind fun q6 =>
          some (.inl q5.1, q6, q1.2)) else (
          zO_take_22 I q1.2)) else none)) (fun k3 => some (.inr k3, I, q1.2))
def zL_take (x1 : Int32) (x2 : Int32) (I : iq_I) (J : iq_J) (X : iq_X) : Option (Int32 × iq_I × iq_J × iq_X) :=
  (zO_take x1 x2 I X).bind fun q1 =>
  iq_sm q1.1 (fun a2 =>
    ir_let (iq_upJ J 114 0 (Int32.toInt64 a2)) fun J4 =>
    some ((0 : Int32), q1.2.1, J4, q1.2.2)) (fun k3 => if k3 = 0 then (
    some ((1 : Int32), q1.2.1, J, q1.2.2)) else (
  if k3 = 1 then (
    none) else none))
def zM_take_29  (I : iq_I) : Option (Int32 × iq_I) :=
  (zM_refuses (1 : Int32) I).bind fun q3 =>
  some (q3.1, q3.2)
def zM_take_l63_b (x1 : Int32) (x3 : Int32)  (x4 : Int32) (I : iq_I) : Option ((Int32 × iq_I) ⊕ (iq_I)) :=
  if iq_in x1 206 then (
    if (I 98 (Int32.toNatClampNeg x1)) ≤ x4 then (
      some (.inr I)) else (
      if iq_in ((((6 : Int32) + ((40 : Int32) * x1)) + x4) + (1 : Int32)) 206 then (
        if iq_in (((6 : Int32) + ((40 : Int32) * x1)) + x4) 206 then (
          ir_let (iq_upI I 98 (Int32.toNatClampNeg (((6 : Int32) + ((40 : Int32) * x1)) + x4)) (I 98 (Int32.toNatClampNeg ((((6 : Int32) + ((40 : Int32) * x1)) + x4) + (1 : Int32))))) fun I7 =>
          some (.inl ((x4 + (1 : Int32)), I7))) else none) else none)) else none
def zM_take_l63 (x1 : Int32) (x3 : Int32)  (n : Nat) (v : Int32 × iq_I) : Option (iq_I) := iq_lp (fun v => zM_take_l63_b x1 x3 v.1 v.2) n v
def zM_take (x1 : Int32) (x2 : Int32) (I : iq_I) : Option (Int32 × iq_I) :=
  ir_let (iq_upI I 76 0 (0 : Int32)) fun I1 =>
  (zM_isSaying x1 I1).bind fun q2 =>
  if ¬ q2.1 = 0 then (
    if x2 < 0 then (
      zM_take_29 q2.2) else (
      if iq_in x1 206 then (
        if x2 < (q2.2 98 (Int32.toNatClampNeg x1)) then (
          (zM_keeps q2.2).bind fun q4 =>
          (zM_wordAt_76_98 x1 x2 q4).bind fun q5 =>
          if iq_in x1 206 then (
            if iq_in x1 206 then (
              ir_let (iq_upI q4 98 (Int32.toNatClampNeg x1) ((q4 98 (Int32.toNatClampNeg x1)) - (1 : Int32))) fun I6 =>
              (zM_take_l63 x1 q5 ir_F (x2, I6)).bind fun w8 =>
              some (q5, w8)) else none) else none) else (
          zM_take_29 q2.2)) else none)) else (
    some ((0 : Int32), q2.2))
def zO_fly_41  (I : iq_I) (X : iq_X) : Option ((Int32 ⊕ Nat) × iq_I × iq_X) :=
  (zO_refuseAct I).bind fun q7 =>
  some (.inl q7.1, q7.2, X)
def zO_fly (x1 : Int32) (x2 : Int32) (x3 : Int32) (I : iq_I) (X : iq_X) : Option ((Int32 ⊕ Nat) × iq_I × iq_X) :=
  (zO_needSaying x1 I X).bind fun q1 =>
  iq_sm q1.1 (fun a2 =>
    (zO_needWord x3 I q1.2).bind fun q4 =>
    iq_sm q4.1 (fun a5 =>
      if iq_in x1 5 then (
        if (40 : Int32) ≤ (I 18 (Int32.toNatClampNeg x1)) then (
          zO_fly_41 I q4.2) else (
          if x2 < 0 then (
            zO_fly_41 I q4.2) else (
            if iq_in x1 5 then (
              if x2 ≤ (I 18 (Int32.toNatClampNeg x1)) then (
                (zG_putIn_16 x1 x2 x3 I).bind fun q8 =>
                (zA_keep (0 : Int32) x1 x2 x3 q8).bind fun q9 =>
                if iq_in x1 5 then (
                  some (.inl (q9 18 (Int32.toNatClampNeg x1)), q9, q4.2)) else none) else (
                zO_fly_41 I q4.2)) else none))) else none) (fun k6 => some (.inr k6, I, q4.2))) (fun k3 => some (.inr k3, I, q1.2))
def zL_fly (x1 : Int32) (x2 : Int32) (x3 : Int32) (I : iq_I) (J : iq_J) (X : iq_X) : Option (Int32 × iq_I × iq_J × iq_X) :=
  (zO_fly x1 x2 x3 I X).bind fun q1 =>
  iq_sm q1.1 (fun a2 =>
    ir_let (iq_upJ J 114 0 (Int32.toInt64 a2)) fun J4 =>
    some ((0 : Int32), q1.2.1, J4, q1.2.2)) (fun k3 => if k3 = 0 then (
    some ((1 : Int32), q1.2.1, J, q1.2.2)) else (
  if k3 = 1 then (
    none) else none))
def zM_puts0_76_98_l5_b (x2 : Int32) (x3 : Int32) (x4 : Int32)  (x5 : Int32) (I : iq_I) : Option ((Int32 × iq_I) ⊕ (iq_I)) :=
  if x5 ≤ x3 then (
    some (.inr I)) else (
    if iq_in ((((6 : Int32) + ((40 : Int32) * x2)) + x5) - (1 : Int32)) 206 then (
      if iq_in (((6 : Int32) + ((40 : Int32) * x2)) + x5) 206 then (
        ir_let (iq_upI I 98 (Int32.toNatClampNeg (((6 : Int32) + ((40 : Int32) * x2)) + x5)) (I 98 (Int32.toNatClampNeg ((((6 : Int32) + ((40 : Int32) * x2)) + x5) - (1 : Int32))))) fun I1 =>
        some (.inl ((x5 + (-1 : Int32)), I1))) else none) else none)
def zM_puts0_76_98_l5 (x2 : Int32) (x3 : Int32) (x4 : Int32)  (n : Nat) (v : Int32 × iq_I) : Option (iq_I) := iq_lp (fun v => zM_puts0_76_98_l5_b x2 x3 x4 v.1 v.2) n v
def zM_puts0_76_98 (x2 : Int32) (x3 : Int32) (x4 : Int32) (I : iq_I) : Option (iq_I) :=
  if iq_in x2 206 then (
    (zM_puts0_76_98_l5 x2 x3 x4 ir_F ((I 98 (Int32.toNatClampNeg x2)), I)).bind fun w2 =>
    if iq_in (((6 : Int32) + ((40 : Int32) * x2)) + x3) 206 then (
      ir_let (iq_upI w2 98 (Int32.toNatClampNeg (((6 : Int32) + ((40 : Int32) * x2)) + x3)) x4) fun I3 =>
      if iq_in x2 206 then (
        if iq_in x2 206 then (
          ir_let (iq_upI I3 98 (Int32.toNatClampNeg x2) ((I3 98 (Int32.toNatClampNeg x2)) + (1 : Int32))) fun I4 =>
          some I4) else none) else none) else none) else none
