/-! ===== the methods as pure functions (printed by wip/whole/emitall.py, split.py) ===== -/
def zH_whatMayCome_69_50_l16_b (x2 : Int32) (x3 : Int32)  (x4 : Int32) (x5 : Int32) (I : iq_I) : Option ((Int32 × Int32 × iq_I) ⊕ (Int32 × iq_I)) :=
  if (I 4 2) ≤ x5 then (
    some (.inr (x4, I))) else (
    (zH_isFree_69_50 x2 x3 x5 I).bind fun q2 =>
    if q2 = 0 then (
      some (.inl (x4, (x5 + (1 : Int32)), I))) else (
      (zH_isLawful_69_50 x2 x5 (I 50 1) I).bind fun q3 =>
      if q3.1 = 0 then (
        some (.inl (x4, (x5 + (1 : Int32)), q3.2))) else (
        some (.inl ((x4 ||| ((1 : Int32) <<< (x5 &&& 31))), (x5 + (1 : Int32)), q3.2)))))
def zH_whatMayCome_69_50_l16 (x2 : Int32) (x3 : Int32)  (n : Nat) (v : Int32 × Int32 × iq_I) : Option (Int32 × iq_I) := iq_lp (fun v => zH_whatMayCome_69_50_l16_b x2 x3 v.1 v.2.1 v.2.2) n v
def zH_whatMayCome_69_50 (x2 : Int32) (I : iq_I) : Option (Int32 × iq_I) :=
  (zU_stateOf_4_50 x2 I).bind fun q1 =>
  (zH_whatMayCome_69_50_l16 x2 q1 ir_F ((0 : Int32), (0 : Int32), I)).bind fun w4 =>
  some (w4.1, w4.2)
def zH_weigh_69_50_63 (x2 : Int32) (x3 : Int32) (x4 : Int32) (x5 : Int32) (x6 : Int32) (x7 : Int32) (I : iq_I) : Option ((Int32 × Int32 × iq_I) ⊕ (Int32 × iq_I)) :=
  if iq_in x6 14 then (
    ir_let (iq_upI I 71 (Int32.toNatClampNeg x6) (ir_max (0 : Int32) (ir_min (99 : Int32) x7))) fun I2 =>
    if iq_in x6 14 then (
      some (.inl ((x5 + (I2 71 (Int32.toNatClampNeg x6))), (x6 + (1 : Int32)), I2))) else none) else none
def zH_weigh_69_50_l14_b (x2 : Int32) (x3 : Int32) (x4 : Int32)  (x5 : Int32) (x6 : Int32) (I : iq_I) : Option ((Int32 × Int32 × iq_I) ⊕ (Int32 × iq_I)) :=
  if (14 : Int32) ≤ x6 then (
    some (.inr (x5, I))) else (
    if ((x4 >>> (x6 &&& 31)) &&& (1 : Int32)) = 0 then (
      zH_weigh_69_50_63 x2 x3 x4 x5 x6 (0 : Int32) I) else (
      (zH_fillValues_69_50 x3 x6 (I 50 1) I).bind fun q3 =>
      (zE_give x2 q3).bind fun q4 =>
      zH_weigh_69_50_63 x2 x3 x4 x5 x6 q4.1 q4.2))
def zH_weigh_69_50_l14 (x2 : Int32) (x3 : Int32) (x4 : Int32)  (n : Nat) (v : Int32 × Int32 × iq_I) : Option (Int32 × iq_I) := iq_lp (fun v => zH_weigh_69_50_l14_b x2 x3 x4 v.1 v.2.1 v.2.2) n v
def zH_weigh_69_50 (x2 : Int32) (x3 : Int32) (I : iq_I) : Option (Int32 × iq_I) :=
  (zH_whatMayCome_69_50 x3 I).bind fun q1 =>
  (zH_weigh_69_50_l14 x2 x3 q1.1 ir_F ((0 : Int32), (0 : Int32), q1.2)).bind fun w5 =>
  some (w5.1, w5.2)
def zH_wordAtWeight_l4_b  (I : iq_I) (x2 : Int32) (x3 : Int32)  : Option ((Int32 × Int32) ⊕ ((Unit) ⊕ (Int32))) :=
  if (14 : Int32) ≤ x3 then (
    some (.inr (.inl ()))) else (
    if iq_in x3 14 then (
      if (I 71 (Int32.toNatClampNeg x3)) ≤ x2 then (
        if iq_in x3 14 then (
          some (.inl ((x2 - (I 71 (Int32.toNatClampNeg x3))), (x3 + (1 : Int32))))) else none) else (
        some (.inr (.inr x3)))) else none)
def zH_wordAtWeight_l4  (I : iq_I) (n : Nat) (v : Int32 × Int32) : Option ((Unit) ⊕ (Int32)) := iq_lp (fun v => zH_wordAtWeight_l4_b I v.1 v.2) n v
def zH_wordAtWeight (x1 : Int32) (I : iq_I) : Option (Int32) :=
  (zH_wordAtWeight_l4 I ir_F (x1, (0 : Int32))).bind fun w1 =>
  ir_sm w1 (fun a2 =>
    some (0 : Int32)) (fun b3 => some b3)
def zG_putIn_50 (x1 : Int32) (x2 : Int32) (x3 : Int32) (I : iq_I) : Option (iq_I) :=
  (zG_lengthOf_50 x1 I).bind fun q1 =>
  if x1 < 0 then (
    some I) else (
    if (I 50 0) ≤ x1 then (
      some I) else (
      if (40 : Int32) ≤ q1 then (
        some I) else (
        if x2 < 0 then (
          some I) else (
          if x2 ≤ q1 then (
            if 0 ≤ ((x1 * (40 : Int32)) + x2) ∧ 0 ≤ (((x1 * (40 : Int32)) + x2) + (1 : Int32)) ∧ 0 ≤ (q1 - x2) ∧ Int32.toNatClampNeg ((x1 * (40 : Int32)) + x2) + Int32.toNatClampNeg (q1 - x2) ≤ 200 ∧ Int32.toNatClampNeg (((x1 * (40 : Int32)) + x2) + (1 : Int32)) + Int32.toNatClampNeg (q1 - x2) ≤ 200 then (
              ir_let (iq_cpI I 58 58 (Int32.toNatClampNeg ((x1 * (40 : Int32)) + x2)) (Int32.toNatClampNeg (((x1 * (40 : Int32)) + x2) + (1 : Int32))) (Int32.toNatClampNeg (q1 - x2))) fun I2 =>
              if iq_in ((x1 * (40 : Int32)) + x2) 200 then (
                ir_let (iq_upI I2 58 (Int32.toNatClampNeg ((x1 * (40 : Int32)) + x2)) x3) fun I3 =>
                if iq_in x1 5 then (
                  ir_let (iq_upI I3 52 (Int32.toNatClampNeg x1) (q1 + (1 : Int32))) fun I4 =>
                  some I4) else none) else none) else none) else (
            some I)))))
def zG_nextDay_50  (I : iq_I) : Option (iq_I) :=
  ir_let (iq_upI I 50 1 (((I 50 1) + (1 : Int32)) - ((I 50 1) + (1 : Int32)) / (7 : Int32) * (7 : Int32))) fun I1 =>
  some I1
def zH_playSeason_132 (x3 : Int32) (x4 : Int32) (x5 : Int32) (x6 : Int32) (I : iq_I) : Option ((Int32 × Int32 × Int32 × iq_I) ⊕ (Int32 × iq_I)) :=
  (zG_nextDay_50 I).bind fun q6 =>
  some (.inl (x4, x5, (x6 + (1 : Int32)), q6))
def zH_playSeason_l31_b (x3 : Int32)  (x4 : Int32) (x5 : Int32) (x6 : Int32) (I : iq_I) : Option ((Int32 × Int32 × Int32 × iq_I) ⊕ (Int32 × iq_I)) :=
  if x3 ≤ x6 then (
    some (.inr (x4, I))) else (
    (zH_nextSeed x5 I).bind fun q1 =>
    (zH_draw q1 (I 50 0) I).bind fun q2 =>
    (zH_nextSeed q1 I).bind fun q3 =>
    (zH_draw q3 (I 8 0) I).bind fun q4 =>
    (zH_weigh_69_50 q4 q2 I).bind fun q5 =>
    if q5.1 ≤ 0 then (
      zH_playSeason_132 x3 x4 q3 x6 q5.2) else (
      (zH_nextSeed q3 q5.2).bind fun q7 =>
      (zH_draw q7 q5.1 q5.2).bind fun q8 =>
      (zH_wordAtWeight q8 q5.2).bind fun q9 =>
      (zG_lengthOf_50 q2 q5.2).bind fun q10 =>
      (zG_putIn_50 q2 q10 q9 q5.2).bind fun q11 =>
      zH_playSeason_132 x3 (x4 + (1 : Int32)) q7 x6 q11))
def zH_playSeason_l31 (x3 : Int32)  (n : Nat) (v : Int32 × Int32 × Int32 × iq_I) : Option (Int32 × iq_I) := iq_lp (fun v => zH_playSeason_l31_b x3 v.1 v.2.1 v.2.2.1 v.2.2.2) n v
def zH_playSeason (x2 : Int32) (x3 : Int32) (I : iq_I) : Option (Int32 × iq_I) :=
  if (I 50 0) ≤ 0 then (
    some ((0 : Int32), I)) else (
    if 0 < (I 8 0) then (
      (zH_playSeason_l31 x3 ir_F ((0 : Int32), x2, (0 : Int32), I)).bind fun w12 =>
      some (w12.1, w12.2)) else (
      some ((0 : Int32), I)))
def zO_season_20  (I : iq_I) (X : iq_X) : Option ((Int32 ⊕ Nat) × iq_I × iq_X) :=
  some (.inr 1, I, (ir_xx X))
def zO_season_10 (x1 : Int32) (x2 : Int32) (x3 : Int32) (I : iq_I) (X : iq_X) : Option ((Int32 ⊕ Nat) × iq_I × iq_X) :=
  if x2 < 0 then (
    zO_season_20 I X) else (
    if x2 ≤ (60 : Int32) then (
      (zG_copyFrom_50_16 I).bind fun q1 =>
      (zH_playSeason x1 x2 q1).bind fun q2 =>
      if ¬ x3 = (-1 : Int32) then (
        if iq_in x3 5 then (
          some (.inl (q2.2 52 (Int32.toNatClampNeg x3)), q2.2, X)) else none) else (
        some (.inl q2.1, q2.2, X))) else (
      zO_season_20 I X))
def zO_season (x1 : Int32) (x2 : Int32) (x3 : Int32) (I : iq_I) (X : iq_X) : Option ((Int32 ⊕ Nat) × iq_I × iq_X) :=
  if x3 = (-1 : Int32) then (
    zO_season_10 x1 x2 x3 I X) else (
    (zO_needSaying x3 I X).bind fun q3 =>
    iq_sm q3.1 (fun a4 =>
      zO_season_10 x1 x2 x3 I q3.2) (fun k5 => some (.inr k5, I, q3.2)))
def zL_season (x1 : Int32) (x2 : Int32) (x3 : Int32) (I : iq_I) (J : iq_J) (X : iq_X) : Option (Int32 × iq_I × iq_J × iq_X) :=
  (zO_season x1 x2 x3 I X).bind fun q1 =>
  iq_sm q1.1 (fun a2 =>
    ir_let (iq_upJ J 114 0 (Int32.toInt64 a2)) fun J4 =>
    some ((0 : Int32), q1.2.1, J4, q1.2.2)) (fun k3 => if k3 = 0 then (
    some ((1 : Int32), q1.2.1, J, q1.2.2)) else (
  if k3 = 1 then (
    some ((2 : Int32), q1.2.1, J, q1.2.2)) else none))
def zM_copies_76_98_99_l2_b   (x3 : Int32) (I : iq_I) : Option ((Int32 × iq_I) ⊕ (iq_I)) :=
  if (206 : Int32) ≤ x3 then (
    some (.inr I)) else (
    if iq_in x3 206 then (
      if iq_in x3 206 then (
        ir_let (iq_upI I 99 (Int32.toNatClampNeg x3) (I 98 (Int32.toNatClampNeg x3))) fun I1 =>
        some (.inl ((x3 + (1 : Int32)), I1))) else none) else none)
def zM_copies_76_98_99_l2   (n : Nat) (v : Int32 × iq_I) : Option (iq_I) := iq_lp (fun v => zM_copies_76_98_99_l2_b  v.1 v.2) n v
def zM_copies_76_98_99  (I : iq_I) : Option (iq_I) :=
  (zM_copies_76_98_99_l2  ir_F ((0 : Int32), I)).bind fun w2 =>
  some w2
def zM_draw (x1 : Int32) (I : iq_I) : Option (Int32 × iq_I) :=
  ir_let (iq_upI I 76 67 (((I 76 67) * (1103515245 : Int32)) + (12345 : Int32))) fun I1 =>
  if x1 = 0 then none else (
    some (((((I1 76 67) >>> ((16 : Int32) &&& 31)) &&& (32767 : Int32)) - (((I1 76 67) >>> ((16 : Int32) &&& 31)) &&& (32767 : Int32)) / x1 * x1), I1))
def zM_wordAt_76_99 (x2 : Int32) (x3 : Int32) (I : iq_I) : Option (Int32) :=
  if iq_in (((6 : Int32) + ((40 : Int32) * x2)) + x3) 206 then (
    some (I 99 (Int32.toNatClampNeg (((6 : Int32) + ((40 : Int32) * x2)) + x3)))) else none
def zM_stateOf_76_99_l6_b (x2 : Int32) (x4 : Int32) (I : iq_I) (x5 : Int32) (x6 : Int32)  : Option ((Int32 × Int32) ⊕ (Int32)) :=
  if iq_in x2 206 then (
    if (I 99 (Int32.toNatClampNeg x2)) ≤ x6 then (
      some (.inr x5)) else (
      if x5 = (-1 : Int32) then (
        some (.inr x5)) else (
        if x6 = x4 then (
          some (.inl (x5, (x6 + (1 : Int32))))) else (
          (zM_wordAt_76_99 x2 x6 I).bind fun q1 =>
          (zM_leads x5 q1 I).bind fun q2 =>
          some (.inl (q2, (x6 + (1 : Int32)))))))) else none
def zM_stateOf_76_99_l6 (x2 : Int32) (x4 : Int32) (I : iq_I) (n : Nat) (v : Int32 × Int32) : Option (Int32) := iq_lp (fun v => zM_stateOf_76_99_l6_b x2 x4 I v.1 v.2) n v
def zM_stateOf_76_99 (x2 : Int32) (x3 : Int32) (x4 : Int32) (I : iq_I) : Option (Int32) :=
  (zM_stateOf_76_99_l6 x2 x4 I ir_F (x3, (0 : Int32))).bind fun w3 =>
  some w3
def zM_stateNow_76_99 (x2 : Int32) (I : iq_I) : Option (Int32) :=
  if iq_in x2 5 then (
    (zM_stateOf_76_99 x2 (I 83 (Int32.toNatClampNeg x2)) (-1 : Int32) I).bind fun q1 =>
    some q1) else none
def zM_rule_76_99_l6_b (x1 : Int32) (x3 : Int32) (x4 : Int32) (I : iq_I) (x5 : Int32) (x6 : Int32)  : Option ((Int32 × Int32) ⊕ (Int32)) :=
  if iq_in x3 206 then (
    if (I 99 (Int32.toNatClampNeg x3)) ≤ x6 then (
      some (.inr x5)) else (
      (zM_wordAt_76_99 x3 x6 I).bind fun q1 =>
      if ¬ q1 = x4 then (
        some (.inl ((x5 + (0 : Int32)), (x6 + (1 : Int32))))) else (
        some (.inl ((x5 + (1 : Int32)), (x6 + (1 : Int32))))))) else none
def zM_rule_76_99_l6 (x1 : Int32) (x3 : Int32) (x4 : Int32) (I : iq_I) (n : Nat) (v : Int32 × Int32) : Option (Int32) := iq_lp (fun v => zM_rule_76_99_l6_b x1 x3 x4 I v.1 v.2) n v
def zM_rule_76_99_144 (x1 : Int32) (s1 : Int32) (s2 : Int32) (I : iq_I) : Option (Int32 × iq_I) :=
  if iq_in s1 7 then (
    ir_let (iq_upI I 101 (Int32.toNatClampNeg s1) s2) fun I9 =>
    (zM_reckons x1 I9).bind fun q10 =>
    some (q10.1, q10.2)) else none
def zM_rule_76_99_143 (x1 : Int32) (s1 : Int32) (I : iq_I) : Option (Int32 × iq_I) :=
  zM_rule_76_99_144 x1 s1 (0 : Int32) I
def zM_rule_76_99 (x1 : Int32) (x3 : Int32) (x4 : Int32) (I : iq_I) : Option (Int32 × iq_I) :=
  (zM_rule_76_99_l6 x1 x3 x4 I ir_F ((0 : Int32), (0 : Int32))).bind fun w2 =>
  if iq_in x4 14 then (
    ir_let (iq_upI I 101 0 (I 79 (Int32.toNatClampNeg x4))) fun I3 =>
    if iq_in x4 14 then (
      ir_let (iq_upI I3 101 1 (I3 78 (Int32.toNatClampNeg x4))) fun I4 =>
      ir_let (iq_upI I4 101 2 x4) fun I5 =>
      ir_let (iq_upI I5 101 3 (I5 99 5)) fun I6 =>
      if iq_in x3 206 then (
        ir_let (iq_upI I6 101 4 (I6 99 (Int32.toNatClampNeg x3))) fun I7 =>
        ir_let (iq_upI I7 101 5 w2) fun I8 =>
        if iq_in x3 206 then (
          if (I8 99 (Int32.toNatClampNeg x3)) ≤ 0 then (
            zM_rule_76_99_143 x1 (6 : Int32) I8) else (
            if iq_in x3 206 then (
              (zM_wordAt_76_99 x3 ((I8 99 (Int32.toNatClampNeg x3)) - (1 : Int32)) I8).bind fun q11 =>
              (zM_lastLetter q11 I8).bind fun q12 =>
              (zM_lastLetter x4 I8).bind fun q13 =>
              if ¬ q12 = q13 then (
                zM_rule_76_99_143 x1 (6 : Int32) I8) else (
                zM_rule_76_99_144 x1 (6 : Int32) (1 : Int32) I8)) else none)) else none) else none) else none) else none
def zM_mayCome_76_99 (x2 : Int32) (x3 : Int32) (x4 : Int32) (I : iq_I) : Option (Int32 × iq_I) :=
  if x3 = (-1 : Int32) then (
    some ((0 : Int32), I)) else (
    if iq_in x2 206 then (
      if ¬ (I 99 (Int32.toNatClampNeg x2)) = (40 : Int32) then (
        (zM_leads x3 x4 I).bind fun q1 =>
        if q1 = (-1 : Int32) then (
          some ((0 : Int32), I)) else (
          (zM_canFollow q1 I).bind fun q2 =>
          if q2 = 0 then (
            some ((0 : Int32), I)) else (
            if (I 76 6) = (-1 : Int32) then (
              some ((1 : Int32), I)) else (
              (zM_rule_76_99 (I 76 6) x2 x4 I).bind fun q3 =>
              if q3.1 = 0 then (
                some ((0 : Int32), q3.2)) else (
                some ((1 : Int32), q3.2)))))) else (
        some ((0 : Int32), I))) else none)
def zM_weight_76_99 (x2 : Int32) (x3 : Int32) (x4 : Int32) (x5 : Int32) (I : iq_I) : Option (Int32 × iq_I) :=
  (zM_mayCome_76_99 x3 x4 x5 I).bind fun q1 =>
  if ¬ q1.1 = 0 then (
    if iq_in x2 4 then (
      (zM_rule_76_99 (q1.2 82 (Int32.toNatClampNeg x2)) x3 x5 q1.2).bind fun q2 =>
      if 0 ≤ q2.1 then (
        if q2.1 ≤ (99 : Int32) then (
          some (q2.1, q2.2)) else (
          some ((99 : Int32), q2.2))) else (
        some ((0 : Int32), q2.2))) else none) else (
    some ((0 : Int32), q1.2))
def zM_weights_76_99_l14_b (x2 : Int32) (x3 : Int32) (x4 : Int32)  (x5 : Int32) (x6 : Int32) (I : iq_I) : Option ((Int32 × Int32 × iq_I) ⊕ (Int32 × iq_I)) :=
  if (I 76 2) ≤ x6 then (
    some (.inr (x5, I))) else (
    (zM_weight_76_99 x2 x3 x4 x6 I).bind fun q2 =>
    some (.inl ((x5 + q2.1), (x6 + (1 : Int32)), q2.2)))
def zM_weights_76_99_l14 (x2 : Int32) (x3 : Int32) (x4 : Int32)  (n : Nat) (v : Int32 × Int32 × iq_I) : Option (Int32 × iq_I) := iq_lp (fun v => zM_weights_76_99_l14_b x2 x3 x4 v.1 v.2.1 v.2.2) n v
def zM_weights_76_99 (x2 : Int32) (x3 : Int32) (I : iq_I) : Option (Int32 × iq_I) :=
  (zM_stateNow_76_99 x3 I).bind fun q1 =>
  (zM_weights_76_99_l14 x2 x3 q1 ir_F ((0 : Int32), (0 : Int32), I)).bind fun w3 =>
  some (w3.1, w3.2)
def zM_puts0_76_99_l5_b (x2 : Int32) (x3 : Int32) (x4 : Int32)  (x5 : Int32) (I : iq_I) : Option ((Int32 × iq_I) ⊕ (iq_I)) :=
  if x5 ≤ x3 then (
    some (.inr I)) else (
    if iq_in ((((6 : Int32) + ((40 : Int32) * x2)) + x5) - (1 : Int32)) 206 then (
      if iq_in (((6 : Int32) + ((40 : Int32) * x2)) + x5) 206 then (
        ir_let (iq_upI I 99 (Int32.toNatClampNeg (((6 : Int32) + ((40 : Int32) * x2)) + x5)) (I 99 (Int32.toNatClampNeg ((((6 : Int32) + ((40 : Int32) * x2)) + x5) - (1 : Int32))))) fun I1 =>
        some (.inl ((x5 + (-1 : Int32)), I1))) else none) else none)
def zM_puts0_76_99_l5 (x2 : Int32) (x3 : Int32) (x4 : Int32)  (n : Nat) (v : Int32 × iq_I) : Option (iq_I) := iq_lp (fun v => zM_puts0_76_99_l5_b x2 x3 x4 v.1 v.2) n v
def zM_puts0_76_99 (x2 : Int32) (x3 : Int32) (x4 : Int32) (I : iq_I) : Option (iq_I) :=
  if iq_in x2 206 then (
    (zM_puts0_76_99_l5 x2 x3 x4 ir_F ((I 99 (Int32.toNatClampNeg x2)), I)).bind fun w2 =>
    if iq_in (((6 : Int32) + ((40 : Int32) * x2)) + x3) 206 then (
      ir_let (iq_upI w2 99 (Int32.toNatClampNeg (((6 : Int32) + ((40 : Int32) * x2)) + x3)) x4) fun I3 =>
      if iq_in x2 206 then (
        if iq_in x2 206 then (
          ir_let (iq_upI I3 99 (Int32.toNatClampNeg x2) ((I3 99 (Int32.toNatClampNeg x2)) + (1 : Int32))) fun I4 =>
          some I4) else none) else none) else none) else none
