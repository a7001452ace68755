/-! ===== the methods as pure functions (printed by wip/whole/emitall.py, split.py) ===== -/
def zH_playSeason_132 (x3 : Int32) (x4 : Int32) (x5 : Int32) (x6 : Int32) (I : iq_I) : Option ((Int32 × Int32 × Int32 × iq_I) ⊕ (Int32 × iq_I)) :=
  (zG_nextDay_50 I).bind fun q6 =>
  some (.inl (x4, x5, (x6 + (1 : Int32)), q6))
def zH_playSeason_l31_b (x3 : Int32)  (x4 : Int32) (x5 : Int32) (x6 : Int32) (I : iq_I) : Option ((Int32 × Int32 × Int32 × iq_I) ⊕ (Int32 × iq_I)) :=
  if x3 ≤ x6 then (
    some (.inr (x4, I))) else (
    (zH_nextSeed x5 I).bind fun q1 =>
    (zH_draw q1 (I 50 0) I).bind fun q2 =>
    (zH_nextSeed q1 I).bind fun q3 =>
    (zH_draw q3 (I 8 0) I).bind fun q4 =>
    (zH_weigh_69_50 q4 q2 I).bind fun q5 =>
    if q5.1 ≤ 0 then (
      zH_playSeason_132 x3 x4 q3 x6 q5.2) else (
      (zH_nextSeed q3 q5.2).bind fun q7 =>
      (zH_draw q7 q5.1 q5.2).bind fun q8 =>
      (zH_wordAtWeight q8 q5.2).bind fun q9 =>
      (zG_lengthOf_50 q2 q5.2).bind fun q10 =>
      (zG_putIn_50 q2 q10 q9 q5.2).bind fun q11 =>
      zH_playSeason_132 x3 (x4 + (1 : Int32)) q7 x6 q11))
def zH_playSeason_l31 (x3 : Int32)  (n : Nat) (v : Int32 × Int32 × Int32 × iq_I) : Option (Int32 × iq_I) := iq_lp (fun v => zH_playSeason_l31_b x3 v.1 v.2.1 v.2.2.1 v.2.2.2) n v
def zH_playSeason (x2 : Int32) (x3 : Int32) (I : iq_I) : Option (Int32 × iq_I) :=
  if (I 50 0) ≤ 0 then (
    some ((0 : Int32), I)) else (
    if 0 < (I 8 0) then (
      (zH_playSeason_l31 x3 ir_F ((0 : Int32), x2, (0 : Int32), I)).bind fun w12 =>
      some (w12.1, w12.2)) else (
      some ((0 : Int32), I)))
def zO_season_20  (I : iq_I) (X : iq_X) : Option ((Int32 ⊕ Nat) × iq_I × iq_X) :=
  some (.inr 1, I, (ir_xx X))
def zO_season_10 (x1 : Int32) (x2 : Int32) (x3 : Int32) (I : iq_I) (X : iq_X) : Option ((Int32 ⊕ Nat) × iq_I × iq_X) :=
  if x2 < 0 then (
    zO_season_20 I X) else (
    if x2 ≤ (60 : Int32) then (
      (zG_copyFrom_50_16 I).bind fun q1 =>
      (zH_playSeason x1 x2 q1).bind fun q2 =>
      if ¬ x3 = (-1 : Int32) then (
        if iq_in x3 5 then (
          some (.inl (q2.2 52 (Int32.toNatClampNeg x3)), q2.2, X)) else none) else (
        some (.inl q2.1, q2.2, X))) else (
      zO_season_20 I X))
def zO_season (x1 : Int32) (x2 : Int32) (x3 : Int32) (I : iq_I) (X : iq_X) : Option ((Int32 ⊕ Nat) × iq_I × iq_X) :=
  if x3 = (-1 : Int32) then (
    zO_season_10 x1 x2 x3 I X) else (
    (zO_needSaying x3 I X).bind fun q3 =>
    iq_sm q3.1 (fun a4 =>
      zO_season_10 x1 x2 x3 I q3.2) (fun k5 => some (.inr k5, I, q3.2)))
def zL_season (x1 : Int32) (x2 : Int32) (x3 : Int32) (I : iq_I) (J : iq_J) (X : iq_X) : Option (Int32 × iq_I × iq_J × iq_X) :=
  (zO_season x1 x2 x3 I X).bind fun q1 =>
  iq_sm q1.1 (fun a2 =>
    ir_let (iq_upJ J 114 0 (Int32.toInt64 a2)) fun J4 =>
    some ((0 : Int32), q1.2.1, J4, q1.2.2)) (fun k3 => if k3 = 0 then (
    some ((1 : Int32), q1.2.1, J, q1.2.2)) else (
  if k3 = 1 then (
    some ((2 : Int32), q1.2.1, J, q1.2.2)) else none))
def zM_copies_76_98_99_l2_b   (x3 : Int32) (I : iq_I) : Option ((Int32 × iq_I) ⊕ (iq_I)) :=
  if (206 : Int32) ≤ x3 then (
    some (.inr I)) else (
    if iq_in x3 206 then (
      if iq_in x3 206 then (
        ir_let (iq_upI I 99 (Int32.toNatClampNeg x3) (I 98 (Int32.toNatClampNeg x3))) fun I1 =>
        some (.inl ((x3 + (1 : Int32)), I1))) else none) else none)
def zM_copies_76_98_99_l2   (n : Nat) (v : Int32 × iq_I) : Option (iq_I) := iq_lp (fun v => zM_copies_76_98_99_l2_b  v.1 v.2) n v
def zM_copies_76_98_99  (I : iq_I) : Option (iq_I) :=
  (zM_copies_76_98_99_l2  ir_F ((0 : Int32), I)).bind fun w2 =>
  some w2
def zM_draw (x1 : Int32) (I : iq_I) : Option (Int32 × iq_I) :=
  ir_let (iq_upI I 76 67 (((I 76 67) * (1103515245 : Int32)) + (12345 : Int32))) fun I1 =>
  if x1 = 0 then none else (
    some (((((I1 76 67) >>> ((16 : Int32) &&& 31)) &&& (32767 : Int32)) - (((I1 76 67) >>> ((16 : Int32) &&& 31)) &&& (32767 : Int32)) / x1 * x1), I1))
def zM_wordAt_76_99 (x2 : Int32) (x3 : Int32) (I : iq_I) : Option (Int32) :=
  if iq_in (((6 : Int32) + ((40 : Int32) * x2)) + x3) 206 then (
    some (I 99 (Int32.toNatClampNeg (((6 : Int32) + ((40 : Int32) * x2)) + x3)))) else none
def zM_stateOf_76_99_l6_b (x2 : Int32) (x4 : Int32) (I : iq_I) (x5 : Int32) (x6 : Int32)  : Option ((Int32 × Int32) ⊕ (Int32)) :=
  if iq_in x2 206 then (
    if (I 99 (Int32.toNatClampNeg x2)) ≤ x6 then (
      some (.inr x5)) else (
      if x5 = (-1 : Int32) then (
        some (.inr x5)) else (
        if x6 = x4 then (
          some (.inl (x5, (x6 + (1 : Int32))))) else (
          (zM_wordAt_76_99 x2 x6 I).bind fun q1 =>
          (zM_leads x5 q1 I).bind fun q2 =>
          some (.inl (q2, (x6 + (1 : Int32)))))))) else none
def zM_stateOf_76_99_l6 (x2 : Int32) (x4 : Int32) (I : iq_I) (n : Nat) (v : Int32 × Int32) : Option (Int32) := iq_lp (fun v => zM_stateOf_76_99_l6_b x2 x4 I v.1 v.2) n v
def zM_stateOf_76_99 (x2 : Int32) (x3 : Int32) (x4 : Int32) (I : iq_I) : Option (Int32) :=
  (zM_stateOf_76_99_l6 x2 x4 I ir_F (x3, (0 : Int32))).bind fun w3 =>
  some w3
def zM_stateNow_76_99 (x2 : Int32) (I : iq_I) : Option (Int32) :=
  if iq_in x2 5 then (
    (zM_stateOf_76_99 x2 (I 83 (Int32.toNatClampNeg x2)) (-1 : Int32) I).bind fun q1 =>
    some q1) else none
def zM_rule_76_99_l6_b (x1 : Int32) (x3 : Int32) (x4 : Int32) (I : iq_I) (x5 : Int32) (x6 : Int32)  : Option ((Int32 × Int32) ⊕ (Int32)) :=
  if iq_in x3 206 then (
    if (I 99 (Int32.toNatClampNeg x3)) ≤ x6 then (
      some (.inr x5)) else (
      (zM_wordAt_76_99 x3 x6 I).bind fun q1 =>
      if ¬ q1 = x4 then (
        some (.inl ((x5 + (0 : Int32)), (x6 + (1 : Int32))))) else (
        some (.inl ((x5 + (1 : Int32)), (x6 + (1 : Int32))))))) else none
def zM_rule_76_99_l6 (x1 : Int32) (x3 : Int32) (x4 : Int32) (I : iq_I) (n : Nat) (v : Int32 × Int32) : Option (Int32) := iq_lp (fun v => zM_rule_76_99_l6_b x1 x3 x4 I v.1 v.2) n v
def zM_rule_76_99_144 (x1 : Int32) (s1 : Int32) (s2 : Int32) (I : iq_I) : Option (Int32 × iq_I) :=
  if iq_in s1 7 then (
    ir_let (iq_upI I 101 (Int32.toNatClampNeg s1) s2) fun I9 =>
    (zM_reckons x1 I9).bind fun q10 =>
    some (q10.1, q10.2)) else none
def zM_rule_76_99_143 (x1 : Int32) (s1 : Int32) (I : iq_I) : Option (Int32 × iq_I) :=
  zM_rule_76_99_144 x1 s1 (0 : Int32) I
def zM_rule_76_99 (x1 : Int32) (x3 : Int32) (x4 : Int32) (I : iq_I) : Option (Int32 × iq_I) :=
  (zM_rule_76_99_l6 x1 x3 x4 I ir_F ((0 : Int32), (0 : Int32))).bind fun w2 =>
  if iq_in x4 14 then (
    ir_let (iq_upI I 101 0 (I 79 (Int32.toNatClampNeg x4))) fun I3 =>
    if iq_in x4 14 then (
      ir_let (iq_upI I3 101 1 (I3 78 (Int32.toNatClampNeg x4))) fun I4 =>
      ir_let (iq_upI I4 101 2 x4) fun I5 =>
      ir_let (iq_upI I5 101 3 (I5 99 5)) fun I6 =>
      if iq_in x3 206 then (
        ir_let (iq_upI I6 101 4 (I6 99 (Int32.toNatClampNeg x3))) fun I7 =>
        ir_let (iq_upI I7 101 5 w2) fun I8 =>
        if iq_in x3 206 then (
          if (I8 99 (Int32.toNatClampNeg x3)) ≤ 0 then (
            zM_rule_76_99_143 x1 (6 : Int32) I8) else (
            if iq_in x3 206 then (
              (zM_wordAt_76_99 x3 ((I8 99 (Int32.toNatClampNeg x3)) - (1 : Int32)) I8).bind fun q11 =>
              (zM_lastLetter q11 I8).bind fun q12 =>
              (zM_lastLetter x4 I8).bind fun q13 =>
              if ¬ q12 = q13 then (
                zM_rule_76_99_143 x1 (6 : Int32) I8) else (
                zM_rule_76_99_144 x1 (6 : Int32) (1 : Int32) I8)) else none)) else none) else none) else none) else none
def zM_mayCome_76_99 (x2 : Int32) (x3 : Int32) (x4 : Int32) (I : iq_I) : Option (Int32 × iq_I) :=
  if x3 = (-1 : Int32) then (
    some ((0 : Int32), I)) else (
    if iq_in x2 206 then (
      if ¬ (I 99 (Int32.toNatClampNeg x2)) = (40 : Int32) then (
        (zM_leads x3 x4 I).bind fun q1 =>
        if q1 = (-1 : Int32) then (
          some ((0 : Int32), I)) else (
          (zM_canFollow q1 I).bind fun q2 =>
          if q2 = 0 then (
            some ((0 : Int32), I)) else (
            if (I 76 6) = (-1 : Int32) then (
              some ((1 : Int32), I)) else (
              (zM_rule_76_99 (I 76 6) x2 x4 I).bind fun q3 =>
              if q3.1 = 0 then (
                some ((0 : Int32), q3.2)) else (
                some ((1 : Int32), q3.2)))))) else (
        some ((0 : Int32), I))) else none)
def zM_weight_76_99 (x2 : Int32) (x3 : Int32) (x4 : Int32) (x5 : Int32) (I : iq_I) : Option (Int32 × iq_I) :=
  (zM_mayCome_76_99 x3 x4 x5 I).bind fun q1 =>
  if ¬ q1.1 = 0 then (
    if iq_in x2 4 then (
      (zM_rule_76_99 (q1.2 82 (Int32.toNatClampNeg x2)) x3 x5 q1.2).bind fun q2 =>
      if 0 ≤ q2.1 then (
        if q2.1 ≤ (99 : Int32) then (
          some (q2.1, q2.2)) else (
          some ((99 : Int32), q2.2))) else (
        some ((0 : Int32), q2.2))) else none) else (
    some ((0 : Int32), q1.2))
def zM_weights_76_99_l14_b (x2 : Int32) (x3 : Int32) (x4 : Int32)  (x5 : Int32) (x6 : Int32) (I : iq_I) : Option ((Int32 × Int32 × iq_I) ⊕ (Int32 × iq_I)) :=
  if (I 76 2) ≤ x6 then (
    some (.inr (x5, I))) else (
    (zM_weight_76_99 x2 x3 x4 x6 I).bind fun q2 =>
    some (.inl ((x5 + q2.1), (x6 + (1 : Int32)), q2.2)))
def zM_weights_76_99_l14 (x2 : Int32) (x3 : Int32) (x4 : Int32)  (n : Nat) (v : Int32 × Int32 × iq_I) : Option (Int32 × iq_I) := iq_lp (fun v => zM_weights_76_99_l14_b x2 x3 x4 v.1 v.2.1 v.2.2) n v
def zM_weights_76_99 (x2 : Int32) (x3 : Int32) (I : iq_I) : Option (Int32 × iq_I) :=
  (zM_stateNow_76_99 x3 I).bind fun q1 =>
  (zM_weights_76_99_l14 x2 x3 q1 ir_F ((0 : Int32), (0 : Int32), I)).bind fun w3 =>
  some (w3.1, w3.2)
def zM_puts0_76_99_l5_b (x2 : Int32) (x3 : Int32) (x4 : Int32)  (x5 : Int32) (I : iq_I) : Option ((Int32 × iq_I) ⊕ (iq_I)) :=
  if x5 ≤ x3 then (
    some (.inr I)) else (
    if iq_in ((((6 : Int32) + ((40 : Int32) * x2)) + x5) - (1 : Int32)) 206 then (
      if iq_in (((6 : Int32) + ((40 : Int32) * x2)) + x5) 206 then (
        ir_let (iq_upI I 99 (Int32.toNatClampNeg (((6 : Int32) + ((40 : Int32) * x2)) + x5)) (I 99 (Int32.toNatClampNeg ((((6 : Int32) + ((40 : Int32) * x2)) + x5) - (1 : Int32))))) fun I1 =>
        some (.inl ((x5 + (-1 : Int32)), I1))) else none) else none)
def zM_puts0_76_99_l5 (x2 : Int32) (x3 : Int32) (x4 : Int32)  (n : Nat) (v : Int32 × iq_I) : Option (iq_I) := iq_lp (fun v => zM_puts0_76_99_l5_b x2 x3 x4 v.1 v.2) n v
def zM_puts0_76_99 (x2 : Int32) (x3 : Int32) (x4 : Int32) (I : iq_I) : Option (iq_I) :=
  if iq_in x2 206 then (
    (zM_puts0_76_99_l5 x2 x3 x4 ir_F ((I 99 (Int32.toNatClampNeg x2)), I)).bind fun w2 =>
    if iq_in (((6 : Int32) + ((40 : Int32) * x2)) + x3) 206 then (
      ir_let (iq_upI w2 99 (Int32.toNatClampNeg (((6 : Int32) + ((40 : Int32) * x2)) + x3)) x4) fun I3 =>
      if iq_in x2 206 then (
        if iq_in x2 206 then (
          ir_let (iq_upI I3 99 (Int32.toNatClampNeg x2) ((I3 99 (Int32.toNatClampNeg x2)) + (1 : Int32))) fun I4 =>
          some I4) else none) else none) else none) else none
def zM_season_210 (x2 : Int32) (x3 : Int32) (x4 : Int32) (x5 : Int32) (I : iq_I) : Option ((Int32 × Int32 × iq_I) ⊕ (Int32 × iq_I)) :=
  ir_let (iq_upI I 99 5 (((I 99 5) + (1 : Int32)) - ((I 99 5) + (1 : Int32)) / (7 : Int32) * (7 : Int32))) fun I9 =>
  some (.inl (x4, (x5 + (1 : Int32)), I9))
def zM_season_l140_b (x2 : Int32) (x3 : Int32) (x4 : Int32) (x5 : Int32) (x6 : Int32) (x7 : Int32) (x10 : Int32)  (x9 : Int32) (x11 : Int32) (I : iq_I) : Option ((Int32 × Int32 × iq_I) ⊕ (Int32 × iq_I)) :=
  (zM_weight_76_99 x7 x6 x10 x11 I).bind fun q12 =>
  if x9 < q12.1 then (
    some (.inr (x11, q12.2))) else (
    (zM_weight_76_99 x7 x6 x10 x11 q12.2).bind fun q13 =>
    some (.inl ((x9 - q13.1), (x11 + (1 : Int32)), q13.2)))
def zM_season_l140 (x2 : Int32) (x3 : Int32) (x4 : Int32) (x5 : Int32) (x6 : Int32) (x7 : Int32) (x10 : Int32)  (n : Nat) (v : Int32 × Int32 × iq_I) : Option (Int32 × iq_I) := iq_lp (fun v => zM_season_l140_b x2 x3 x4 x5 x6 x7 x10 v.1 v.2.1 v.2.2) n v
def zM_season_l58_b (x2 : Int32) (x3 : Int32)  (x4 : Int32) (x5 : Int32) (I : iq_I) : Option ((Int32 × Int32 × iq_I) ⊕ (Int32 × iq_I)) :=
  if x2 ≤ x5 then (
    some (.inr (x4, I))) else (
    if (I 76 5) ≤ 0 then (
      some (.inr (x4, I))) else (
      if (I 76 4) ≤ 0 then (
        some (.inr (x4, I))) else (
        (zM_draw (I 76 5) I).bind fun q6 =>
        (zM_draw (q6.2 76 4) q6.2).bind fun q7 =>
        (zM_weights_76_99 q7.1 q6.1 q7.2).bind fun q8 =>
        if q8.1 ≤ 0 then (
          zM_season_210 x2 x3 x4 x5 q8.2) else (
          (zM_draw q8.1 q8.2).bind fun q10 =>
          (zM_stateNow_76_99 q6.1 q10.2).bind fun q11 =>
          (zM_season_l140 x2 x3 x4 x5 q6.1 q7.1 q11 ir_F (q10.1, (0 : Int32), q10.2)).bind fun w14 =>
          if iq_in q6.1 206 then (
            (zM_puts0_76_99 q6.1 (w14.2 99 (Int32.toNatClampNeg q6.1)) w14.1 w14.2).bind fun q15 =>
            zM_season_210 x2 x3 (x4 + (1 : Int32)) x5 q15) else none))))
def zM_season_l58 (x2 : Int32) (x3 : Int32)  (n : Nat) (v : Int32 × Int32 × iq_I) : Option (Int32 × iq_I) := iq_lp (fun v => zM_season_l58_b x2 x3 v.1 v.2.1 v.2.2) n v
def zM_season_233 (x3 : Int32) (x4 : Int32) (I : iq_I) : Option (Int32 × iq_I) :=
  if ¬ x3 = (-1 : Int32) then (
    if iq_in x3 206 then (
      some ((I 99 (Int32.toNatClampNeg x3)), I)) else none) else (
    some (x4, I))
def zM_season_18 (x1 : Int32) (x2 : Int32) (x3 : Int32) (I : iq_I) : Option (Int32 × iq_I) :=
  (zM_within x2 (0 : Int32) (60 : Int32) I).bind fun q2 =>
  (zM_right q2 (2 : Int32) I).bind fun q3 =>
  if ¬ q3.1 = 0 then (
    (zM_copies_76_98_99 q3.2).bind fun q4 =>
    ir_let (iq_upI q4 76 67 x1) fun I5 =>
    (zM_season_l58 x2 x3 ir_F ((0 : Int32), (0 : Int32), I5)).bind fun w16 =>
    zM_season_233 x3 w16.1 w16.2) else (
    some ((0 : Int32), q3.2))
def zM_season (x1 : Int32) (x2 : Int32) (x3 : Int32) (I : iq_I) : Option (Int32 × iq_I) :=
  ir_let (iq_upI I 76 0 (0 : Int32)) fun I1 =>
  if x3 = (-1 : Int32) then (
    zM_season_18 x1 x2 x3 I1) else (
    (zM_isSaying x3 I1).bind fun q17 =>
    if q17.1 = 0 then (
      some ((0 : Int32), q17.2)) else (
      zM_season_18 x1 x2 x3 q17.2))
def zW_wouldHeal (x2 : Int32) (x3 : Int32) (I : iq_I) : Option (Int32) :=
  (zG_beginOf_16 x2 I).bind fun q1 =>
  (zU_stateFrom_4_16 x2 q1 x3 I).bind fun q2 =>
  if q2 = (-1 : Int32) then (
    some (0 : Int32)) else (
    some (1 : Int32))
def zW_countFlies_l27_b (x2 : Int32) (x4 : Int32) (I : iq_I) (x3 : Int32) (x5 : Int32)  : Option ((Int32 × Int32) ⊕ (Int32)) :=
  if x4 ≤ x5 then (
    some (.inr x3)) else (
    (zW_wouldHeal x2 x5 I).bind fun q3 =>
    if q3 = 0 then (
      some (.inl (x3, (x5 + (1 : Int32))))) else (
      some (.inl ((x3 + (1 : Int32)), (x5 + (1 : Int32))))))
def zW_countFlies_l27 (x2 : Int32) (x4 : Int32) (I : iq_I) (n : Nat) (v : Int32 × Int32) : Option (Int32) := iq_lp (fun v => zW_countFlies_l27_b x2 x4 I v.1 v.2) n v
def zW_countFlies (x2 : Int32) (I : iq_I) : Option (Int32) :=
  (zU_stateOf_4_16 x2 I).bind fun q1 =>
  if q1 = (-1 : Int32) then (
    (zG_lengthOf_16 x2 I).bind fun q2 =>
    (zW_countFlies_l27 x2 q2 I ir_F ((0 : Int32), (0 : Int32))).bind fun w4 =>
    some w4) else (
    some (0 : Int32))
def zW_firstFly_l24_b (x2 : Int32) (x3 : Int32) (I : iq_I) (x4 : Int32)  : Option ((Int32) ⊕ ((Unit) ⊕ (Int32))) :=
  if x3 ≤ x4 then (
    some (.inr (.inl ()))) else (
    (zW_wouldHeal x2 x4 I).bind fun q3 =>
    if q3 = 0 then (
      some (.inl (x4 + (1 : Int32)))) else (
      some (.inr (.inr x4))))
def zW_firstFly_l24 (x2 : Int32) (x3 : Int32) (I : iq_I) (n : Nat) (v : Int32) : Option ((Unit) ⊕ (Int32)) := iq_lp (fun v => zW_firstFly_l24_b x2 x3 I v) n v
def zW_firstFly (x2 : Int32) (I : iq_I) : Option (Int32) :=
  (zU_stateOf_4_16 x2 I).bind fun q1 =>
  if q1 = (-1 : Int32) then (
    (zG_lengthOf_16 x2 I).bind fun q2 =>
    (zW_firstFly_l24 x2 q2 I ir_F (0 : Int32)).bind fun w4 =>
    ir_sm w4 (fun a5 =>
      some (-1 : Int32)) (fun b6 => some b6)) else (
    some (-1 : Int32))
def zO_culprit (x1 : Int32) (x2 : Int32) (I : iq_I) (X : iq_X) : Option ((Int32 ⊕ Nat) × iq_X) :=
  (zO_needSaying x1 I X).bind fun q1 =>
  iq_sm q1.1 (fun a2 =>
    (zO_needOneOfTwo x2 I q1.2).bind fun q4 =>
    iq_sm q4.1 (fun a5 =>
      if ¬ x2 = 0 then (
        (zW_firstFly x1 I).bind fun q7 =>
        some (.inl q7, q4.2)) else (
        (zW_countFlies x1 I).bind fun q8 =>
        some (.inl q8, q4.2))) (fun k6 => some (.inr k6, q4.2))) (fun k3 => some (.inr k3, q1.2))
def zL_culprit (x1 : Int32) (x2 : Int32) (I : iq_I) (J : iq_J) (X : iq_X) : Option (Int32 × iq_J × iq_X) :=
  (zO_culprit x1 x2 I X).bind fun q1 =>
  iq_sm q1.1 (fun a2 =>
    ir_let (iq_upJ J 114 0 (Int32.toInt64 a2)) fun J4 =>
    some ((0 : Int32), J4, q1.2)) (fun k3 => if k3 = 0 then (
    some ((1 : Int32), J, q1.2)) else (
  if k3 = 1 then (
    none) else none))
