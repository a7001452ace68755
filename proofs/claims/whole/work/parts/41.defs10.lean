/-! ===== the methods as pure functions (printed by wip/whole/emitall.py, split.py) ===== -/
def zP_waysByOneMore_l5_b (x1 : Int32) (I : iq_I) (J : iq_J) (y2 : Int64) (x4 : Int32)  : Option ((Int64 × Int32) ⊕ (Int64)) :=
  if (8 : Int32) ≤ x4 then (
    some (.inr y2)) else (
    (zU_leadsBy_4 x1 x4 I).bind fun q1 =>
    if q1 < 0 then (
      some (.inl (y2, (x4 + (1 : Int32))))) else (
      if (10 : Int32) ≤ q1 then (
        some (.inl (y2, (x4 + (1 : Int32))))) else (
        if iq_in x4 8 then (
          if iq_in q1 10 then (
            some (.inl ((y2 + ((Int32.toInt64 (I 7 (Int32.toNatClampNeg x4))) * (J 67 (Int32.toNatClampNeg q1)))), (x4 + (1 : Int32))))) else none) else none)))
def zP_waysByOneMore_l5 (x1 : Int32) (I : iq_I) (J : iq_J) (n : Nat) (v : Int64 × Int32) : Option (Int64) := iq_lp (fun v => zP_waysByOneMore_l5_b x1 I J v.1 v.2) n v
def zP_waysByOneMore (x1 : Int32) (I : iq_I) (J : iq_J) : Option (Int64) :=
  (zP_waysByOneMore_l5 x1 I J ir_F ((0 : Int64), (0 : Int32))).bind fun w2 =>
  some w2
def zP_countWays_45 (x1 : Int32) (x2 : Int32) (x3 : Int32) (x4 : Int32) (s1 : Int32) (s2 : Int64) (I : iq_I) (J : iq_J) : Option ((Int32 × iq_J) ⊕ (iq_J)) :=
  if iq_in s1 10 then (
    ir_let (iq_upJ J 67 (Int32.toNatClampNeg s1) s2) fun J1 =>
    some (.inl ((x4 + (1 : Int32)), J1))) else none
def zP_countWays_40 (x1 : Int32) (x2 : Int32) (x3 : Int32) (x4 : Int32) (s1 : Int32) (I : iq_I) (J : iq_J) : Option ((Int32 × iq_J) ⊕ (iq_J)) :=
  zP_countWays_45 x1 x2 x3 x4 s1 (1 : Int64) I J
def zP_countWays_l3_b (x1 : Int32) (x2 : Int32) (x3 : Int32) (I : iq_I) (x4 : Int32) (J : iq_J) : Option ((Int32 × iq_J) ⊕ (iq_J)) :=
  if (I 4 0) ≤ x4 then (
    some (.inr J)) else (
    if x3 = 0 then (
      zP_countWays_40 x1 x2 x3 x4 x4 I J) else (
      if (((I 4 1) >>> (x4 &&& 31)) &&& (1 : Int32)) = 0 then (
        zP_countWays_45 x1 x2 x3 x4 x4 (0 : Int64) I J) else (
        zP_countWays_40 x1 x2 x3 x4 x4 I J)))
def zP_countWays_l3 (x1 : Int32) (x2 : Int32) (x3 : Int32) (I : iq_I) (n : Nat) (v : Int32 × iq_J) : Option (iq_J) := iq_lp (fun v => zP_countWays_l3_b x1 x2 x3 I v.1 v.2) n v
def zP_countWays_l64_b (x1 : Int32) (x2 : Int32) (x4 : Int32) (I : iq_I) (x5 : Int32) (J : iq_J) : Option ((Int32 × iq_J) ⊕ (iq_J)) :=
  if (I 4 0) ≤ x5 then (
    some (.inr J)) else (
    (zP_waysByOneMore x5 I J).bind fun q3 =>
    if iq_in x5 10 then (
      ir_let (iq_upJ J 68 (Int32.toNatClampNeg x5) q3) fun J4 =>
      some (.inl ((x5 + (1 : Int32)), J4))) else none)
def zP_countWays_l64 (x1 : Int32) (x2 : Int32) (x4 : Int32) (I : iq_I) (n : Nat) (v : Int32 × iq_J) : Option (iq_J) := iq_lp (fun v => zP_countWays_l64_b x1 x2 x4 I v.1 v.2) n v
def zP_countWays_l55_b (x1 : Int32) (x2 : Int32) (I : iq_I) (x4 : Int32) (J : iq_J) : Option ((Int32 × iq_J) ⊕ (iq_J)) :=
  if x2 ≤ x4 then (
    some (.inr J)) else (
    (zP_countWays_l64 x1 x2 x4 I ir_F ((0 : Int32), J)).bind fun w5 =>
    ir_let (iq_cpJ w5 68 67 0 0 10) fun J6 =>
    some (.inl ((x4 + (1 : Int32)), J6)))
def zP_countWays_l55 (x1 : Int32) (x2 : Int32) (I : iq_I) (n : Nat) (v : Int32 × iq_J) : Option (iq_J) := iq_lp (fun v => zP_countWays_l55_b x1 x2 I v.1 v.2) n v
def zP_countWays (x1 : Int32) (x2 : Int32) (x3 : Int32) (I : iq_I) (J : iq_J) : Option (Int64 × iq_J) :=
  (zP_countWays_l3 x1 x2 x3 I ir_F ((0 : Int32), J)).bind fun w2 =>
  (zP_countWays_l55 x1 x2 I ir_F ((0 : Int32), w2)).bind fun w7 =>
  if x1 < 0 then (
    some ((0 : Int64), w7)) else (
    if x1 < (10 : Int32) then (
      if iq_in x1 10 then (
        some ((w7 67 (Int32.toNatClampNeg x1)), w7)) else none) else (
      some ((0 : Int64), w7)))
def zO_ways_15  (I : iq_I) (J : iq_J) (X : iq_X) : Option ((Int64 ⊕ Nat) × iq_J × iq_X) :=
  some (.inr 1, J, (ir_xx X))
def zO_ways (x1 : Int32) (x2 : Int32) (x3 : Int32) (I : iq_I) (J : iq_J) (X : iq_X) : Option ((Int64 ⊕ Nat) × iq_J × iq_X) :=
  (zO_needState x1 I X).bind fun q1 =>
  iq_sm q1.1 (fun a2 =>
    if x2 < 0 then (
      zO_ways_15 I J q1.2) else (
      if x2 ≤ (12 : Int32) then (
        (zP_countWays x1 x2 x3 I J).bind fun q4 =>
        some (.inl q4.1, q4.2, q1.2)) else (
        zO_ways_15 I J q1.2))) (fun k3 => some (.inr k3, J, q1.2))
def zL_ways (x1 : Int32) (x2 : Int32) (x3 : Int32) (I : iq_I) (J : iq_J) (X : iq_X) : Option (Int32 × iq_J × iq_X) :=
  (zO_ways x1 x2 x3 I J X).bind fun q1 =>
  iq_sm q1.1 (fun a2 =>
    ir_let (iq_upJ q1.2.1 114 0 a2) fun J4 =>
    some ((0 : Int32), J4, q1.2.2)) (fun k3 => if k3 = 0 then (
    some ((1 : Int32), q1.2.1, q1.2.2)) else (
  if k3 = 1 then (
    some ((2 : Int32), q1.2.1, q1.2.2)) else none))
def zM_ways_70 (x1 : Int32) (x2 : Int32) (x3 : Int32) (x4 : Int32) (s1 : Int32) (s2 : Int64) (I : iq_I) (J : iq_J) : Option ((Int32 × iq_J) ⊕ (iq_J)) :=
  if iq_in s1 10 then (
    ir_let (iq_upJ J 104 (Int32.toNatClampNeg s1) s2) fun J5 =>
    some (.inl ((x4 + (1 : Int32)), J5))) else none
def zM_ways_65 (x1 : Int32) (x2 : Int32) (x3 : Int32) (x4 : Int32) (s1 : Int32) (I : iq_I) (J : iq_J) : Option ((Int32 × iq_J) ⊕ (iq_J)) :=
  zM_ways_70 x1 x2 x3 x4 s1 (1 : Int64) I J
def zM_ways_l33_b (x1 : Int32) (x2 : Int32) (x3 : Int32) (I : iq_I) (x4 : Int32) (J : iq_J) : Option ((Int32 × iq_J) ⊕ (iq_J)) :=
  if (I 76 1) ≤ x4 then (
    some (.inr J)) else (
    if x3 = 0 then (
      zM_ways_65 x1 x2 x3 x4 x4 I J) else (
      if ¬ (((I 76 7) >>> (x4 &&& 31)) &&& (1 : Int32)) = (1 : Int32) then (
        zM_ways_70 x1 x2 x3 x4 x4 (0 : Int64) I J) else (
        zM_ways_65 x1 x2 x3 x4 x4 I J)))
def zM_ways_l33 (x1 : Int32) (x2 : Int32) (x3 : Int32) (I : iq_I) (n : Nat) (v : Int32 × iq_J) : Option (iq_J) := iq_lp (fun v => zM_ways_l33_b x1 x2 x3 I v.1 v.2) n v
def zM_ways_l109_b (x1 : Int32) (x2 : Int32) (x4 : Int32) (x5 : Int32) (I : iq_I) (x6 : Int32) (J : iq_J) : Option ((Int32 × iq_J) ⊕ (iq_J)) :=
  if (I 76 2) ≤ x6 then (
    some (.inr J)) else (
    (zM_leads x5 x6 I).bind fun q8 =>
    if q8 = (-1 : Int32) then (
      some (.inl ((x6 + (1 : Int32)), J))) else (
      if iq_in x5 10 then (
        (zM_leads x5 x6 I).bind fun q9 =>
        if iq_in q9 10 then (
          if iq_in x5 10 then (
            ir_let (iq_upJ J 105 (Int32.toNatClampNeg x5) ((J 105 (Int32.toNatClampNeg x5)) + (J 104 (Int32.toNatClampNeg q9)))) fun J10 =>
            some (.inl ((x6 + (1 : Int32)), J10))) else none) else none) else none))
def zM_ways_l109 (x1 : Int32) (x2 : Int32) (x4 : Int32) (x5 : Int32) (I : iq_I) (n : Nat) (v : Int32 × iq_J) : Option (iq_J) := iq_lp (fun v => zM_ways_l109_b x1 x2 x4 x5 I v.1 v.2) n v
def zM_ways_l89_b (x1 : Int32) (x2 : Int32) (x4 : Int32) (I : iq_I) (x5 : Int32) (J : iq_J) : Option ((Int32 × iq_J) ⊕ (iq_J)) :=
  if (I 76 1) ≤ x5 then (
    some (.inr J)) else (
    if iq_in x5 10 then (
      ir_let (iq_upJ J 105 (Int32.toNatClampNeg x5) (0 : Int64)) fun J7 =>
      (zM_ways_l109 x1 x2 x4 x5 I ir_F ((0 : Int32), J7)).bind fun w11 =>
      some (.inl ((x5 + (1 : Int32)), w11))) else none)
def zM_ways_l89 (x1 : Int32) (x2 : Int32) (x4 : Int32) (I : iq_I) (n : Nat) (v : Int32 × iq_J) : Option (iq_J) := iq_lp (fun v => zM_ways_l89_b x1 x2 x4 I v.1 v.2) n v
def zM_ways_l168_b (x1 : Int32) (x2 : Int32) (x4 : Int32) (I : iq_I) (x5 : Int32) (J : iq_J) : Option ((Int32 × iq_J) ⊕ (iq_J)) :=
  if (I 76 1) ≤ x5 then (
    some (.inr J)) else (
    if iq_in x5 10 then (
      if iq_in x5 10 then (
        ir_let (iq_upJ J 104 (Int32.toNatClampNeg x5) (J 105 (Int32.toNatClampNeg x5))) fun J13 =>
        some (.inl ((x5 + (1 : Int32)), J13))) else none) else none)
def zM_ways_l168 (x1 : Int32) (x2 : Int32) (x4 : Int32) (I : iq_I) (n : Nat) (v : Int32 × iq_J) : Option (iq_J) := iq_lp (fun v => zM_ways_l168_b x1 x2 x4 I v.1 v.2) n v
def zM_ways_l80_b (x1 : Int32) (x2 : Int32) (I : iq_I) (x4 : Int32) (J : iq_J) : Option ((Int32 × iq_J) ⊕ (iq_J)) :=
  if x2 ≤ x4 then (
    some (.inr J)) else (
    (zM_ways_l89 x1 x2 x4 I ir_F ((0 : Int32), J)).bind fun w12 =>
    (zM_ways_l168 x1 x2 x4 I ir_F ((0 : Int32), w12)).bind fun w14 =>
    some (.inl ((x4 + (1 : Int32)), w14)))
def zM_ways_l80 (x1 : Int32) (x2 : Int32) (I : iq_I) (n : Nat) (v : Int32 × iq_J) : Option (iq_J) := iq_lp (fun v => zM_ways_l80_b x1 x2 I v.1 v.2) n v
def zM_ways (x1 : Int32) (x2 : Int32) (x3 : Int32) (I : iq_I) (J : iq_J) : Option (Int64 × iq_I × iq_J) :=
  ir_let (iq_upI I 76 0 (0 : Int32)) fun I1 =>
  (zM_isState x1 I1).bind fun q2 =>
  if q2.1 = 0 then (
    some ((0 : Int64), q2.2, J)) else (
    (zM_within x2 (0 : Int32) (12 : Int32) q2.2).bind fun q3 =>
    (zM_right q3 (2 : Int32) q2.2).bind fun q4 =>
    if ¬ q4.1 = 0 then (
      (zM_ways_l33 x1 x2 x3 q4.2 ir_F ((0 : Int32), J)).bind fun w6 =>
      (zM_ways_l80 x1 x2 q4.2 ir_F ((0 : Int32), w6)).bind fun w15 =>
      if iq_in x1 10 then (
        some ((w15 104 (Int32.toNatClampNeg x1)), q4.2, w15)) else none) else (
      some ((0 : Int64), q4.2, J)))
def zP_longestWithin_l5_b (x1 : Int32) (x2 : Int32) (I : iq_I) (x3 : Int32) (x4 : Int32)  : Option ((Int32 × Int32) ⊕ ((Unit) ⊕ (Int32))) :=
  if (I 4 0) < x4 then (
    some (.inr (.inl ()))) else (
    (zP_leadingInto x2 x3 I).bind fun q1 =>
    if ¬ ((q1 >>> (x1 &&& 31)) &&& (1 : Int32)) = 0 then (
      some (.inl (q1, (x4 + (1 : Int32))))) else (
      some (.inr (.inr (x4 - (1 : Int32))))))
def zP_longestWithin_l5 (x1 : Int32) (x2 : Int32) (I : iq_I) (n : Nat) (v : Int32 × Int32) : Option ((Unit) ⊕ (Int32)) := iq_lp (fun v => zP_longestWithin_l5_b x1 x2 I v.1 v.2) n v
def zP_longestWithin (x1 : Int32) (x2 : Int32) (I : iq_I) : Option (Int32) :=
  (zP_longestWithin_l5 x1 x2 I ir_F (x2, (1 : Int32))).bind fun w2 =>
  ir_sm w2 (fun a3 =>
    some (-1 : Int32)) (fun b4 => some b4)
def zP_mustEnd (x1 : Int32) (I : iq_I) : Option (Int32 × iq_I) :=
  if (((I 4 1) >>> (x1 &&& 31)) &&& (1 : Int32)) = 0 then (
    (zP_lookBehind (0 : Int32) I).bind fun q1 =>
    (zP_allStates q1).bind fun q2 =>
    (zP_longestWithin x1 (q2 &&& ((q1 4 1) ^^^ (-1 : Int32))) q1).bind fun q3 =>
    if ¬ q3 = (-1 : Int32) then (
      some ((q3 + (1 : Int32)), q1)) else (
      some ((-1 : Int32), q1))) else (
    some ((0 : Int32), I))
def zO_must (x1 : Int32) (I : iq_I) (X : iq_X) : Option ((Int32 ⊕ Nat) × iq_I × iq_X) :=
  (zO_needState x1 I X).bind fun q1 =>
  iq_sm q1.1 (fun a2 =>
    (zP_mustEnd x1 I).bind fun q4 =>
    some (.inl q4.1, q4.2, q1.2)) (fun k3 => some (.inr k3, I, q1.2))
def zL_must (x1 : Int32) (I : iq_I) (J : iq_J) (X : iq_X) : Option (Int32 × iq_I × iq_J × iq_X) :=
  (zO_must x1 I X).bind fun q1 =>
  iq_sm q1.1 (fun a2 =>
    ir_let (iq_upJ J 114 0 (Int32.toInt64 a2)) fun J4 =>
    some ((0 : Int32), q1.2.1, J4, q1.2.2)) (fun k3 => if k3 = 0 then (
    some ((1 : Int32), q1.2.1, J, q1.2.2)) else (
  if k3 = 1 then (
    none) else none))
def zM_must_l28_b  (I : iq_I) (x2 : Int32) (x3 : Int32)  : Option ((Int32 × Int32) ⊕ ((Unit) ⊕ (Int32 × iq_I))) :=
  if (40 : Int32) < x3 then (
    some (.inr (.inl ()))) else (
    if ¬ x2 = 0 then (
      (zM_onward x2 I).bind fun q3 =>
      some (.inl ((q3 &&& ((I 76 7) ^^^ (-1 : Int32))), (x3 + (1 : Int32))))) else (
      some (.inr (.inr (x3, I)))))
def zM_must_l28  (I : iq_I) (n : Nat) (v : Int32 × Int32) : Option ((Unit) ⊕ (Int32 × iq_I)) := iq_lp (fun v => zM_must_l28_b I v.1 v.2) n v
def zM_must (x1 : Int32) (I : iq_I) : Option (Int32 × iq_I) :=
  ir_let (iq_upI I 76 0 (0 : Int32)) fun I1 =>
  (zM_isState x1 I1).bind fun q2 =>
  if ¬ q2.1 = 0 then (
    (zM_must_l28 q2.2 ir_F ((((1 : Int32) <<< (x1 &&& 31)) &&& ((q2.2 76 7) ^^^ (-1 : Int32))), (0 : Int32))).bind fun w4 =>
    ir_sm w4 (fun a5 =>
      some ((-1 : Int32), q2.2)) (fun b6 => some b6)) else (
    some ((0 : Int32), q2.2))
def zP_measureToEnds_44 (x1 : Int32) (x2 : Int32) (s1 : Int32) (s2 : Int32) (I : iq_I) : Option ((Int32 × iq_I) ⊕ (iq_I)) :=
  if iq_in s1 10 then (
    ir_let (iq_upI I 65 (Int32.toNatClampNeg s1) s2) fun I2 =>
    some (.inl ((x2 + (1 : Int32)), I2))) else none
def zP_measureToEnds_l15_b (x1 : Int32)  (x2 : Int32) (I : iq_I) : Option ((Int32 × iq_I) ⊕ (iq_I)) :=
  if (I 4 0) ≤ x2 then (
    some (.inr I)) else (
    if ((x1 >>> (x2 &&& 31)) &&& (1 : Int32)) = 0 then (
      zP_measureToEnds_44 x1 x2 x2 (-1 : Int32) I) else (
      zP_measureToEnds_44 x1 x2 x2 (0 : Int32) I))
def zP_measureToEnds_l15 (x1 : Int32)  (n : Nat) (v : Int32 × iq_I) : Option (iq_I) := iq_lp (fun v => zP_measureToEnds_l15_b x1 v.1 v.2) n v
def zP_measureToEnds_l81_b (x1 : Int32) (x2 : Int32) (x3 : Int32)  (x4 : Int32) (I : iq_I) : Option ((Int32 × iq_I) ⊕ (iq_I)) :=
  if (I 4 0) ≤ x4 then (
    some (.inr I)) else (
    if ((x3 >>> (x4 &&& 31)) &&& (1 : Int32)) = 0 then (
      some (.inl ((x4 + (1 : Int32)), I))) else (
      if iq_in x4 10 then (
        ir_let (iq_upI I 65 (Int32.toNatClampNeg x4) x2) fun I6 =>
        some (.inl ((x4 + (1 : Int32)), I6))) else none))
def zP_measureToEnds_l81 (x1 : Int32) (x2 : Int32) (x3 : Int32)  (n : Nat) (v : Int32 × iq_I) : Option (iq_I) := iq_lp (fun v => zP_measureToEnds_l81_b x1 x2 x3 v.1 v.2) n v
def zP_measureToEnds_l53_b   (x1 : Int32) (x2 : Int32) (I : iq_I) : Option ((Int32 × Int32 × iq_I) ⊕ (iq_I)) :=
  if (I 4 0) ≤ x2 then (
    some (.inr I)) else (
    (zP_allStates I).bind fun q4 =>
    (zP_leadingInto (q4 &&& (x1 ^^^ (-1 : Int32))) x1 I).bind fun q5 =>
    (zP_measureToEnds_l81 x1 x2 q5 ir_F ((0 : Int32), I)).bind fun w7 =>
    some (.inl ((x1 ||| q5), (x2 + (1 : Int32)), w7)))
def zP_measureToEnds_l53   (n : Nat) (v : Int32 × Int32 × iq_I) : Option (iq_I) := iq_lp (fun v => zP_measureToEnds_l53_b  v.1 v.2.1 v.2.2) n v
def zP_measureToEnds  (I : iq_I) : Option (iq_I) :=
  (zP_lookBehind (0 : Int32) I).bind fun q1 =>
  (zP_measureToEnds_l15 (q1 4 1) ir_F ((0 : Int32), q1)).bind fun w3 =>
  (zP_measureToEnds_l53  ir_F ((q1 4 1), (1 : Int32), w3)).bind fun w8 =>
  some w8
def zP_distanceOf (x1 : Int32) (I : iq_I) : Option (Int32) :=
  if x1 < 0 then (
    some (-1 : Int32)) else (
    if x1 < (I 4 0) then (
      if iq_in x1 10 then (
        some (I 65 (Int32.toNatClampNeg x1))) else none) else (
      some (-1 : Int32)))
def zP_soonestEnd (x1 : Int32) (I : iq_I) : Option (Int32 × iq_I) :=
  (zP_measureToEnds I).bind fun q1 =>
  (zP_distanceOf x1 q1).bind fun q2 =>
  some (q2, q1)
def zP_firstNearer_l10_b (x1 : Int32) (x2 : Int32) (I : iq_I) (x3 : Int32)  : Option ((Int32) ⊕ ((Unit) ⊕ (Int32))) :=
  if (I 4 2) ≤ x3 then (
    some (.inr (.inl ()))) else (
    (zU_leadsTo_4 x1 x3 I).bind fun q2 =>
    if q2 = (-1 : Int32) then (
      some (.inl (x3 + (1 : Int32)))) else (
      (zP_distanceOf q2 I).bind fun q3 =>
      if ¬ q3 = x2 then (
        some (.inl (x3 + (1 : Int32)))) else (
        some (.inr (.inr x3)))))
def zP_firstNearer_l10 (x1 : Int32) (x2 : Int32) (I : iq_I) (n : Nat) (v : Int32) : Option ((Unit) ⊕ (Int32)) := iq_lp (fun v => zP_firstNearer_l10_b x1 x2 I v) n v
def zP_firstNearer (x1 : Int32) (I : iq_I) : Option (Int32) :=
  (zP_distanceOf x1 I).bind fun q1 =>
  (zP_firstNearer_l10 x1 (q1 - (1 : Int32)) I ir_F (0 : Int32)).bind fun w4 =>
  ir_sm w4 (fun a5 =>
    some (-1 : Int32)) (fun b6 => some b6)
def zP_soonestWord_l20_b (x2 : Int32) (I : iq_I) (x3 : Int32) (x4 : Int32)  : Option ((Int32 × Int32) ⊕ (Int32)) :=
  if x2 ≤ x4 then (
    some (.inr x3)) else (
    if (10 : Int32) ≤ x4 then (
      some (.inr x3)) else (
      (zP_firstNearer x3 I).bind fun q3 =>
      (zU_leadsTo_4 x3 q3 I).bind fun q4 =>
      some (.inl (q4, (x4 + (1 : Int32))))))
def zP_soonestWord_l20 (x2 : Int32) (I : iq_I) (n : Nat) (v : Int32 × Int32) : Option (Int32) := iq_lp (fun v => zP_soonestWord_l20_b x2 I v.1 v.2) n v
def zP_soonestWord_53 (x3 : Int32) (I : iq_I) : Option (Int32 × iq_I) :=
  (zP_firstNearer x3 I).bind fun q6 =>
  some (q6, I)
def zP_soonestWord (x1 : Int32) (x2 : Int32) (I : iq_I) : Option (Int32 × iq_I) :=
  (zP_measureToEnds I).bind fun q1 =>
  (zP_distanceOf x1 q1).bind fun q2 =>
  if x2 < q2 then (
    (zP_soonestWord_l20 x2 q1 ir_F (x1, (0 : Int32))).bind fun w5 =>
    zP_soonestWord_53 w5 q1) else (
    some ((-1 : Int32), q1))
def zO_soonest (x1 : Int32) (x2 : Int32) (I : iq_I) (X : iq_X) : Option ((Int32 ⊕ Nat) × iq_I × iq_X) :=
  (zO_needState x1 I X).bind fun q1 =>
  iq_sm q1.1 (fun a2 =>
    (zO_needNoneOrMore x2 I q1.2).bind fun q4 =>
    iq_sm q4.1 (fun a5 =>
      if ¬ x2 = (-1 : Int32) then (
        (zP_soonestWord x1 x2 I).bind fun q7 =>
        some (.inl q7.1, q7.2, q4.2)) else (
        (zP_soonestEnd x1 I).bind fun q8 =>
        some (.inl q8.1, q8.2, q4.2))) (fun k6 => some (.inr k6, I, q4.2))) (fun k3 => some (.inr k3, I, q1.2))
def zL_soonest (x1 : Int32) (x2 : Int32) (I : iq_I) (J : iq_J) (X : iq_X) : Option (Int32 × iq_I × iq_J × iq_X) :=
  (zO_soonest x1 x2 I X).bind fun q1 =>
  iq_sm q1.1 (fun a2 =>
    ir_let (iq_upJ J 114 0 (Int32.toInt64 a2)) fun J4 =>
    some ((0 : Int32), q1.2.1, J4, q1.2.2)) (fun k3 => if k3 = 0 then (
    some ((1 : Int32), q1.2.1, J, q1.2.2)) else (
  if k3 = 1 then (
    none) else none))
