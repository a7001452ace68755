/-! ===== the methods as pure functions (printed by wip/whole/emitall.py, split.py) ===== -/
def zM_season_210 (x2 : Int32) (x3 : Int32) (x4 : Int32) (x5 : Int32) (I : iq_I) : Option ((Int32 × Int32 × iq_I) ⊕ (Int32 × iq_I)) :=
  ir_let (iq_upI I 99 5 (((I 99 5) + (1 : Int32)) - ((I 99 5) + (1 : Int32)) / (7 : Int32) * (7 : Int32))) fun I9 =>
  some (.inl (x4, (x5 + (1 : Int32)), I9))
def zM_season_l140_b (x2 : Int32) (x3 : Int32) (x4 : Int32) (x5 : Int32) (x6 : Int32) (x7 : Int32) (x10 : Int32)  (x9 : Int32) (x11 : Int32) (I : iq_I) : Option ((Int32 × Int32 × iq_I) ⊕ (Int32 × iq_I)) :=
  (zM_weight_76_99 x7 x6 x10 x11 I).bind fun q12 =>
  if x9 < q12.1 then (
    some (.inr (x11, q12.2))) else (
    (zM_weight_76_99 x7 x6 x10 x11 q12.2).bind fun q13 =>
    some (.inl ((x9 - q13.1), (x11 + (1 : Int32)), q13.2)))
def zM_season_l140 (x2 : Int32) (x3 : Int32) (x4 : Int32) (x5 : Int32) (x6 : Int32) (x7 : Int32) (x10 : Int32)  (n : Nat) (v : Int32 × Int32 × iq_I) : Option (Int32 × iq_I) := iq_lp (fun v => zM_season_l140_b x2 x3 x4 x5 x6 x7 x10 v.1 v.2.1 v.2.2) n v
def zM_season_l58_b (x2 : Int32) (x3 : Int32)  (x4 : Int32) (x5 : Int32) (I : iq_I) : Option ((Int32 × Int32 × iq_I) ⊕ (Int32 × iq_I)) :=
  if x2 ≤ x5 then (
    some (.inr (x4, I))) else (
    if (I 76 5) ≤ 0 then (
      some (.inr (x4, I))) else (
      if (I 76 4) ≤ 0 then (
        some (.inr (x4, I))) else (
        (zM_draw (I 76 5) I).bind fun q6 =>
        (zM_draw (q6.2 76 4) q6.2).bind fun q7 =>
        (zM_weights_76_99 q7.1 q6.1 q7.2).bind fun q8 =>
        if q8.1 ≤ 0 then (
          zM_season_210 x2 x3 x4 x5 q8.2) else (
          (zM_draw q8.1 q8.2).bind fun q10 =>
          (zM_stateNow_76_99 q6.1 q10.2).bind fun q11 =>
          (zM_season_l140 x2 x3 x4 x5 q6.1 q7.1 q11 ir_F (q10.1, (0 : Int32), q10.2)).bind fun w14 =>
          if iq_in q6.1 206 then (
            (zM_puts0_76_99 q6.1 (w14.2 99 (Int32.toNatClampNeg q6.1)) w14.1 w14.2).bind fun q15 =>
            zM_season_210 x2 x3 (x4 + (1 : Int32)) x5 q15) else none))))
def zM_season_l58 (x2 : Int32) (x3 : Int32)  (n : Nat) (v : Int32 × Int32 × iq_I) : Option (Int32 × iq_I) := iq_lp (fun v => zM_season_l58_b x2 x3 v.1 v.2.1 v.2.2) n v
def zM_season_233 (x3 : Int32) (x4 : Int32) (I : iq_I) : Option (Int32 × iq_I) :=
  if ¬ x3 = (-1 : Int32) then (
    if iq_in x3 206 then (
      some ((I 99 (Int32.toNatClampNeg x3)), I)) else none) else (
    some (x4, I))
def zM_season_18 (x1 : Int32) (x2 : Int32) (x3 : Int32) (I : iq_I) : Option (Int32 × iq_I) :=
  (zM_within x2 (0 : Int32) (60 : Int32) I).bind fun q2 =>
  (zM_right q2 (2 : Int32) I).bind fun q3 =>
  if ¬ q3.1 = 0 then (
    (zM_copies_76_98_99 q3.2).bind fun q4 =>
    ir_let (iq_upI q4 76 67 x1) fun I5 =>
    (zM_season_l58 x2 x3 ir_F ((0 : Int32), (0 : Int32), I5)).bind fun w16 =>
    zM_season_233 x3 w16.1 w16.2) else (
    some ((0 : Int32), q3.2))
def zM_season (x1 : Int32) (x2 : Int32) (x3 : Int32) (I : iq_I) : Option (Int32 × iq_I) :=
  ir_let (iq_upI I 76 0 (0 : Int32)) fun I1 =>
  if x3 = (-1 : Int32) then (
    zM_season_18 x1 x2 x3 I1) else (
    (zM_isSaying x3 I1).bind fun q17 =>
    if q17.1 = 0 then (
      some ((0 : Int32), q17.2)) else (
      zM_season_18 x1 x2 x3 q17.2))
def zW_wouldHeal (x2 : Int32) (x3 : Int32) (I : iq_I) : Option (Int32) :=
  (zG_beginOf_16 x2 I).bind fun q1 =>
  (zU_stateFrom_4_16 x2 q1 x3 I).bind fun q2 =>
  if q2 = (-1 : Int32) then (
    some (0 : Int32)) else (
    some (1 : Int32))
def zW_countFlies_l27_b (x2 : Int32) (x4 : Int32) (I : iq_I) (x3 : Int32) (x5 : Int32)  : Option ((Int32 × Int32) ⊕ (Int32)) :=
  if x4 ≤ x5 then (
    some (.inr x3)) else (
    (zW_wouldHeal x2 x5 I).bind fun q3 =>
    if q3 = 0 then (
      some (.inl (x3, (x5 + (1 : Int32))))) else (
      some (.inl ((x3 + (1 : Int32)), (x5 + (1 : Int32))))))
def zW_countFlies_l27 (x2 : Int32) (x4 : Int32) (I : iq_I) (n : Nat) (v : Int32 × Int32) : Option (Int32) := iq_lp (fun v => zW_countFlies_l27_b x2 x4 I v.1 v.2) n v
def zW_countFlies (x2 : Int32) (I : iq_I) : Option (Int32) :=
  (zU_stateOf_4_16 x2 I).bind fun q1 =>
  if q1 = (-1 : Int32) then (
    (zG_lengthOf_16 x2 I).bind fun q2 =>
    (zW_countFlies_l27 x2 q2 I ir_F ((0 : Int32), (0 : Int32))).bind fun w4 =>
    some w4) else (
    some (0 : Int32))
def zW_firstFly_l24_b (x2 : Int32) (x3 : Int32) (I : iq_I) (x4 : Int32)  : Option ((Int32) ⊕ ((Unit) ⊕ (Int32))) :=
  if x3 ≤ x4 then (
    some (.inr (.inl ()))) else (
    (zW_wouldHeal x2 x4 I).bind fun q3 =>
    if q3 = 0 then (
      some (.inl (x4 + (1 : Int32)))) else (
      some (.inr (.inr x4))))
def zW_firstFly_l24 (x2 : Int32) (x3 : Int32) (I : iq_I) (n : Nat) (v : Int32) : Option ((Unit) ⊕ (Int32)) := iq_lp (fun v => zW_firstFly_l24_b x2 x3 I v) n v
def zW_firstFly (x2 : Int32) (I : iq_I) : Option (Int32) :=
  (zU_stateOf_4_16 x2 I).bind fun q1 =>
  if q1 = (-1 : Int32) then (
    (zG_lengthOf_16 x2 I).bind fun q2 =>
    (zW_firstFly_l24 x2 q2 I ir_F (0 : Int32)).bind fun w4 =>
    ir_sm w4 (fun a5 =>
      some (-1 : Int32)) (fun b6 => some b6)) else (
    some (-1 : Int32))
def zO_culprit (x1 : Int32) (x2 : Int32) (I : iq_I) (X : iq_X) : Option ((Int32 ⊕ Nat) × iq_X) :=
  (zO_needSaying x1 I X).bind fun q1 =>
  iq_sm q1.1 (fun a2 =>
    (zO_needOneOfTwo x2 I q1.2).bind fun q4 =>
    iq_sm q4.1 (fun a5 =>
      if ¬ x2 = 0 then (
        (zW_firstFly x1 I).bind fun q7 =>
        some (.inl q7, q4.2)) else (
        (zW_countFlies x1 I).bind fun q8 =>
        some (.inl q8, q4.2))) (fun k6 => some (.inr k6, q4.2))) (fun k3 => some (.inr k3, q1.2))
def zL_culprit (x1 : Int32) (x2 : Int32) (I : iq_I) (J : iq_J) (X : iq_X) : Option (Int32 × iq_J × iq_X) :=
  (zO_culprit x1 x2 I X).bind fun q1 =>
  iq_sm q1.1 (fun a2 =>
    ir_let (iq_upJ J 114 0 (Int32.toInt64 a2)) fun J4 =>
    some ((0 : Int32), J4, q1.2)) (fun k3 => if k3 = 0 then (
    some ((1 : Int32), J, q1.2)) else (
  if k3 = 1 then (
    none) else none))
def zM_culprit_l32_b (x1 : Int32) (x2 : Int32) (I : iq_I) (x3 : Int32) (x4 : Int32) (x5 : Int32)  : Option ((Int32 × Int32 × Int32) ⊕ (Int32 × Int32)) :=
  if iq_in x1 206 then (
    if (I 98 (Int32.toNatClampNeg x1)) ≤ x5 then (
      some (.inr (x3, x4))) else (
      (zM_stateNow_76_98 x1 I).bind fun q4 =>
      if ¬ q4 = (-1 : Int32) then (
        some (.inr (x3, x4))) else (
        if iq_in x1 5 then (
          (zM_stateOf_76_98 x1 (I 83 (Int32.toNatClampNeg x1)) x5 I).bind fun q5 =>
          if ¬ q5 = (-1 : Int32) then (
            if ¬ x4 = (-1 : Int32) then (
              some (.inl ((x3 + (1 : Int32)), x4, (x5 + (1 : Int32))))) else (
              some (.inl ((x3 + (1 : Int32)), x5, (x5 + (1 : Int32)))))) else (
            some (.inl (x3, x4, (x5 + (1 : Int32)))))) else none))) else none
def zM_culprit_l32 (x1 : Int32) (x2 : Int32) (I : iq_I) (n : Nat) (v : Int32 × Int32 × Int32) : Option (Int32 × Int32) := iq_lp (fun v => zM_culprit_l32_b x1 x2 I v.1 v.2.1 v.2.2) n v
def zM_culprit_99 (x2 : Int32) (x3 : Int32) (x4 : Int32) (I : iq_I) : Option (Int32 × iq_I) :=
  if ¬ x2 = 0 then (
    some (x4, I)) else (
    some (x3, I))
def zM_culprit (x1 : Int32) (x2 : Int32) (I : iq_I) : Option (Int32 × iq_I) :=
  ir_let (iq_upI I 76 0 (0 : Int32)) fun I1 =>
  (zM_isSaying x1 I1).bind fun q2 =>
  if q2.1 = 0 then (
    some ((0 : Int32), q2.2)) else (
    (zM_isWhat x2 (1 : Int32) q2.2).bind fun q3 =>
    if ¬ q3.1 = 0 then (
      (zM_culprit_l32 x1 x2 q3.2 ir_F ((0 : Int32), (-1 : Int32), (0 : Int32))).bind fun w6 =>
      zM_culprit_99 x2 w6.1 w6.2 q3.2) else (
      some ((0 : Int32), q3.2)))
def zW_fewestChanges_l17_b (x2 : Int32) (x3 : Int32) (x4 : Int32) (x5 : Int32)  (x6 : Int32) (I : iq_I) : Option ((Int32 × iq_I) ⊕ (iq_I)) :=
  if x5 < x6 then (
    some (.inr I)) else (
    if (40 : Int32) < x6 then (
      some (.inr I)) else (
      if iq_in x6 41 then (
        ir_let (iq_upI I 73 (Int32.toNatClampNeg x6) x6) fun I3 =>
        some (.inl ((x6 + (1 : Int32)), I3))) else none))
def zW_fewestChanges_l17 (x2 : Int32) (x3 : Int32) (x4 : Int32) (x5 : Int32)  (n : Nat) (v : Int32 × iq_I) : Option (iq_I) := iq_lp (fun v => zW_fewestChanges_l17_b x2 x3 x4 x5 v.1 v.2) n v
def zW_fewestChanges_120 (x2 : Int32) (x3 : Int32) (x4 : Int32) (x5 : Int32) (x6 : Int32) (x7 : Int32) (x8 : Int32) (s0 : Int32) (s1 : Int32) (I : iq_I) : Option ((Int32 × iq_I) ⊕ (iq_I)) :=
  if iq_in x8 41 then (
    if iq_in (x8 - (1 : Int32)) 41 then (
      if iq_in x8 41 then (
        ir_let (iq_upI I 74 (Int32.toNatClampNeg x8) (ir_min (s0 + s1) ((1 : Int32) + (ir_min (I 73 (Int32.toNatClampNeg x8)) (I 74 (Int32.toNatClampNeg (x8 - (1 : Int32)))))))) fun I8 =>
        some (.inl ((x8 + (1 : Int32)), I8))) else none) else none) else none
def zW_fewestChanges_l78_b (x2 : Int32) (x3 : Int32) (x4 : Int32) (x5 : Int32) (x6 : Int32) (x7 : Int32)  (x8 : Int32) (I : iq_I) : Option ((Int32 × iq_I) ⊕ (iq_I)) :=
  if x5 < x8 then (
    some (.inr I)) else (
    if (40 : Int32) < x8 then (
      some (.inr I)) else (
      if iq_in (x8 - (1 : Int32)) 41 then (
        (zG_wordAt_16 x3 (x8 - (1 : Int32)) I).bind fun q7 =>
        if ¬ x7 = q7 then (
          zW_fewestChanges_120 x2 x3 x4 x5 x6 x7 x8 (I 73 (Int32.toNatClampNeg (x8 - (1 : Int32)))) (1 : Int32) I) else (
          zW_fewestChanges_120 x2 x3 x4 x5 x6 x7 x8 (I 73 (Int32.toNatClampNeg (x8 - (1 : Int32)))) (0 : Int32) I)) else none))
def zW_fewestChanges_l78 (x2 : Int32) (x3 : Int32) (x4 : Int32) (x5 : Int32) (x6 : Int32) (x7 : Int32)  (n : Nat) (v : Int32 × iq_I) : Option (iq_I) := iq_lp (fun v => zW_fewestChanges_l78_b x2 x3 x4 x5 x6 x7 v.1 v.2) n v
def zW_fewestChanges_162 (x2 : Int32) (x3 : Int32) (x4 : Int32) (x5 : Int32) (x6 : Int32) (I : iq_I) : Option ((Int32 × iq_I) ⊕ (iq_I)) :=
  ir_let (iq_cpI I 74 73 0 0 41) fun I10 =>
  some (.inl ((x6 + (1 : Int32)), I10))
def zW_fewestChanges_l49_b (x2 : Int32) (x3 : Int32) (x4 : Int32) (x5 : Int32)  (x6 : Int32) (I : iq_I) : Option ((Int32 × iq_I) ⊕ (iq_I)) :=
  if x4 < x6 then (
    some (.inr I)) else (
    (zG_wordAt_16 x2 (x6 - (1 : Int32)) I).bind fun q5 =>
    ir_let (iq_upI I 74 0 x6) fun I6 =>
    (zW_fewestChanges_l78 x2 x3 x4 x5 x6 q5 ir_F ((1 : Int32), I6)).bind fun w9 =>
    zW_fewestChanges_162 x2 x3 x4 x5 x6 w9)
def zW_fewestChanges_l49 (x2 : Int32) (x3 : Int32) (x4 : Int32) (x5 : Int32)  (n : Nat) (v : Int32 × iq_I) : Option (iq_I) := iq_lp (fun v => zW_fewestChanges_l49_b x2 x3 x4 x5 v.1 v.2) n v
def zW_fewestChanges_46 (x2 : Int32) (x3 : Int32) (x4 : Int32) (x5 : Int32) (I : iq_I) : Option (Int32 × iq_I) :=
  (zW_fewestChanges_l49 x2 x3 x4 x5 ir_F ((1 : Int32), I)).bind fun w11 =>
  if x5 < 0 then (
    some ((0 : Int32), w11)) else (
    if (40 : Int32) < x5 then (
      some ((0 : Int32), w11)) else (
      if iq_in x5 41 then (
        some ((w11 73 (Int32.toNatClampNeg x5)), w11)) else none))
def zW_fewestChanges (x2 : Int32) (x3 : Int32) (I : iq_I) : Option (Int32 × iq_I) :=
  (zG_lengthOf_16 x2 I).bind fun q1 =>
  (zG_lengthOf_16 x3 I).bind fun q2 =>
  (zW_fewestChanges_l17 x2 x3 q1 q2 ir_F ((0 : Int32), I)).bind fun w4 =>
  zW_fewestChanges_46 x2 x3 q1 q2 w4
def zW_nearestTwo_l24_b (x4 : Int32)  (x2 : Int32) (x3 : Int32) (x5 : Int32) (I : iq_I) : Option ((Int32 × Int32 × Int32 × iq_I) ⊕ (Int32 × Int32 × iq_I)) :=
  if (I 16 0) ≤ x5 then (
    some (.inr (x2, x3, I))) else (
    (zW_fewestChanges x4 x5 I).bind fun q1 =>
    if x3 ≤ q1.1 then (
      some (.inl (x2, x3, (x5 + (1 : Int32)), q1.2))) else (
      some (.inl ((((10 : Int32) * x4) + x5), q1.1, (x5 + (1 : Int32)), q1.2))))
def zW_nearestTwo_l24 (x4 : Int32)  (n : Nat) (v : Int32 × Int32 × Int32 × iq_I) : Option (Int32 × Int32 × iq_I) := iq_lp (fun v => zW_nearestTwo_l24_b x4 v.1 v.2.1 v.2.2.1 v.2.2.2) n v
def zW_nearestTwo_l9_b   (x2 : Int32) (x3 : Int32) (x4 : Int32) (I : iq_I) : Option ((Int32 × Int32 × Int32 × iq_I) ⊕ (Int32 × iq_I)) :=
  if (I 16 0) ≤ x4 then (
    some (.inr (x2, I))) else (
    (zW_nearestTwo_l24 x4 ir_F (x2, x3, (x4 + (1 : Int32)), I)).bind fun w2 =>
    some (.inl (w2.1, w2.2.1, (x4 + (1 : Int32)), w2.2.2)))
def zW_nearestTwo_l9   (n : Nat) (v : Int32 × Int32 × Int32 × iq_I) : Option (Int32 × iq_I) := iq_lp (fun v => zW_nearestTwo_l9_b  v.1 v.2.1 v.2.2.1 v.2.2.2) n v
def zW_nearestTwo  (I : iq_I) : Option (Int32 × iq_I) :=
  (zW_nearestTwo_l9  ir_F ((-1 : Int32), (1000 : Int32), (0 : Int32), I)).bind fun w3 =>
  some (w3.1, w3.2)
def zO_nearest  (I : iq_I) : Option (Int32 × iq_I) :=
  (zW_nearestTwo I).bind fun q1 =>
  some (q1.1, q1.2)
def zM_alikeOf_l2_b (x1 : Int32) (x2 : Int32)  (x3 : Int32) (I : iq_I) : Option ((Int32 × iq_I) ⊕ (iq_I)) :=
  if iq_in x2 206 then (
    if (I 98 (Int32.toNatClampNeg x2)) < x3 then (
      some (.inr I)) else (
      if iq_in x3 41 then (
        ir_let (iq_upI I 109 (Int32.toNatClampNeg x3) x3) fun I1 =>
        some (.inl ((x3 + (1 : Int32)), I1))) else none)) else none
def zM_alikeOf_l2 (x1 : Int32) (x2 : Int32)  (n : Nat) (v : Int32 × iq_I) : Option (iq_I) := iq_lp (fun v => zM_alikeOf_l2_b x1 x2 v.1 v.2) n v
def zM_alikeOf_181 (x1 : Int32) (x2 : Int32) (x3 : Int32) (x4 : Int32) (x5 : Int32) (s1 : Int32) (s2 : Int32) (I : iq_I) : Option ((Int32 × Int32 × iq_I) ⊕ (iq_I)) :=
  if iq_in s1 41 then (
    ir_let (iq_upI I 109 (Int32.toNatClampNeg s1) s2) fun I6 =>
    some (.inl (x4, (x5 + (1 : Int32)), I6))) else none
def zM_alikeOf_141 (x1 : Int32) (x2 : Int32) (x3 : Int32) (x4 : Int32) (x5 : Int32) (s0 : Int32) (I : iq_I) : Option ((Int32 × Int32 × iq_I) ⊕ (iq_I)) :=
  if iq_in (x5 - (1 : Int32)) 41 then (
    if s0 ≤ ((I 109 (Int32.toNatClampNeg (x5 - (1 : Int32)))) + (1 : Int32)) then (
      zM_alikeOf_181 x1 x2 x3 x4 x5 x5 s0 I) else (
      if iq_in (x5 - (1 : Int32)) 41 then (
        zM_alikeOf_181 x1 x2 x3 x4 x5 x5 ((I 109 (Int32.toNatClampNeg (x5 - (1 : Int32)))) + (1 : Int32)) I) else none)) else none
def zM_alikeOf_101 (x1 : Int32) (x2 : Int32) (x3 : Int32) (x5 : Int32) (s0 : Int32) (s1 : Int32) (I : iq_I) : Option ((Int32 × Int32 × iq_I) ⊕ (iq_I)) :=
  if iq_in x5 41 then (
    if iq_in x5 41 then (
      if (s0 + s1) ≤ ((I 109 (Int32.toNatClampNeg x5)) + (1 : Int32)) then (
        zM_alikeOf_141 x1 x2 x3 (I 109 (Int32.toNatClampNeg x5)) x5 (s0 + s1) I) else (
        if iq_in x5 41 then (
          zM_alikeOf_141 x1 x2 x3 (I 109 (Int32.toNatClampNeg x5)) x5 ((I 109 (Int32.toNatClampNeg x5)) + (1 : Int32)) I) else none)) else none) else none
def zM_alikeOf_l55_b (x1 : Int32) (x2 : Int32) (x3 : Int32)  (x4 : Int32) (x5 : Int32) (I : iq_I) : Option ((Int32 × Int32 × iq_I) ⊕ (iq_I)) :=
  if iq_in x2 206 then (
    if (I 98 (Int32.toNatClampNeg x2)) < x5 then (
      some (.inr I)) else (
      (zM_wordAt_76_98 x1 (x3 - (1 : Int32)) I).bind fun q4 =>
      (zM_wordAt_76_98 x2 (x5 - (1 : Int32)) I).bind fun q5 =>
      if ¬ q4 = q5 then (
        zM_alikeOf_101 x1 x2 x3 x5 x4 (1 : Int32) I) else (
        zM_alikeOf_101 x1 x2 x3 x5 x4 (0 : Int32) I))) else none
def zM_alikeOf_l55 (x1 : Int32) (x2 : Int32) (x3 : Int32)  (n : Nat) (v : Int32 × Int32 × iq_I) : Option (iq_I) := iq_lp (fun v => zM_alikeOf_l55_b x1 x2 x3 v.1 v.2.1 v.2.2) n v
def zM_alikeOf_l27_b (x1 : Int32) (x2 : Int32)  (x3 : Int32) (I : iq_I) : Option ((Int32 × iq_I) ⊕ (iq_I)) :=
  if iq_in x1 206 then (
    if (I 98 (Int32.toNatClampNeg x1)) < x3 then (
      some (.inr I)) else (
      ir_let (iq_upI I 109 0 x3) fun I3 =>
      (zM_alikeOf_l55 x1 x2 x3 ir_F ((I 109 0), (1 : Int32), I3)).bind fun w7 =>
      some (.inl ((x3 + (1 : Int32)), w7)))) else none
def zM_alikeOf_l27 (x1 : Int32) (x2 : Int32)  (n : Nat) (v : Int32 × iq_I) : Option (iq_I) := iq_lp (fun v => zM_alikeOf_l27_b x1 x2 v.1 v.2) n v
def zM_alikeOf (x1 : Int32) (x2 : Int32) (I : iq_I) : Option (Int32 × iq_I) :=
  (zM_alikeOf_l2 x1 x2 ir_F ((0 : Int32), I)).bind fun w2 =>
  (zM_alikeOf_l27 x1 x2 ir_F ((1 : Int32), w2)).bind fun w8 =>
  if iq_in x2 206 then (
    if iq_in (w8 98 (Int32.toNatClampNeg x2)) 41 then (
      some ((w8 109 (Int32.toNatClampNeg (w8 98 (Int32.toNatClampNeg x2)))), w8)) else none) else none
