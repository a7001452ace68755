/-! ===== the methods as pure functions (printed by wip/whole/emitall.py, split.py) ===== -/
def zP_wordFor_l29_b (x3 : Int32) (x4 : Int32) (I : iq_I) (x5 : Int32) (x6 : Int32) (x7 : Int32)  : Option ((Int32 × Int32 × Int32) ⊕ (Int32 × Int32)) :=
  if x3 ≤ x7 then (
    some (.inr (x5, x6))) else (
    if (40 : Int32) ≤ x7 then (
      some (.inr (x5, x6))) else (
      (zP_firstFor x5 x6 (x4 - x7) I).bind fun q3 =>
      (zU_kindOf q3 I).bind fun q4 =>
      (zU_priceOf q4 I).bind fun q5 =>
      (zU_leadsTo_4 x5 q3 I).bind fun q6 =>
      some (.inl (q6, (x6 - q5), (x7 + (1 : Int32))))))
def zP_wordFor_l29 (x3 : Int32) (x4 : Int32) (I : iq_I) (n : Nat) (v : Int32 × Int32 × Int32) : Option (Int32 × Int32) := iq_lp (fun v => zP_wordFor_l29_b x3 x4 I v.1 v.2.1 v.2.2) n v
def zP_wordFor_97 (x3 : Int32) (x4 : Int32) (x5 : Int32) (x6 : Int32) (I : iq_I) : Option (Int32 × iq_I) :=
  (zP_firstFor x5 x6 (x4 - x3) I).bind fun q8 =>
  some (q8, I)
def zP_wordFor (x1 : Int32) (x2 : Int32) (x3 : Int32) (I : iq_I) : Option (Int32 × iq_I) :=
  (zP_priceRows I).bind fun q1 =>
  (zP_longestFor x1 x2 q1).bind fun q2 =>
  if x3 < q2 then (
    (zP_wordFor_l29 x3 q2 q1 ir_F (x1, x2, (0 : Int32))).bind fun w7 =>
    zP_wordFor_97 x3 q2 w7.1 w7.2 q1) else (
    some ((-1 : Int32), q1))
def zO_costs_20  (I : iq_I) (X : iq_X) : Option ((Int32 ⊕ Nat) × iq_I × iq_X) :=
  some (.inr 1, I, (ir_xx X))
def zO_costs (x1 : Int32) (x2 : Int32) (x3 : Int32) (I : iq_I) (X : iq_X) : Option ((Int32 ⊕ Nat) × iq_I × iq_X) :=
  (zO_needState x1 I X).bind fun q1 =>
  iq_sm q1.1 (fun a2 =>
    (zO_needNoneOrMore x3 I q1.2).bind fun q4 =>
    iq_sm q4.1 (fun a5 =>
      if x2 < 0 then (
        zO_costs_20 I q4.2) else (
        if x2 ≤ (60 : Int32) then (
          if ¬ x3 = (-1 : Int32) then (
            (zP_wordFor x1 x2 x3 I).bind fun q7 =>
            some (.inl q7.1, q7.2, q4.2)) else (
            (zP_mostFor x1 x2 I).bind fun q8 =>
            some (.inl q8.1, q8.2, q4.2))) else (
          zO_costs_20 I q4.2))) (fun k6 => some (.inr k6, I, q4.2))) (fun k3 => some (.inr k3, I, q1.2))
def zL_costs (x1 : Int32) (x2 : Int32) (x3 : Int32) (I : iq_I) (J : iq_J) (X : iq_X) : Option (Int32 × iq_I × iq_J × iq_X) :=
  (zO_costs x1 x2 x3 I X).bind fun q1 =>
  iq_sm q1.1 (fun a2 =>
    ir_let (iq_upJ J 114 0 (Int32.toInt64 a2)) fun J4 =>
    some ((0 : Int32), q1.2.1, J4, q1.2.2)) (fun k3 => if k3 = 0 then (
    some ((1 : Int32), q1.2.1, J, q1.2.2)) else (
  if k3 = 1 then (
    some ((2 : Int32), q1.2.1, J, q1.2.2)) else none))
def zM_costs_l51_b (x1 : Int32) (x2 : Int32) (x3 : Int32)  (x4 : Int32) (I : iq_I) : Option ((Int32 × iq_I) ⊕ (iq_I)) :=
  if (I 76 1) ≤ x4 then (
    some (.inr I)) else (
    if iq_in x4 410 then (
      ir_let (iq_upI I 107 (Int32.toNatClampNeg x4) (0 : Int32)) fun I6 =>
      some (.inl ((x4 + (1 : Int32)), I6))) else none)
def zM_costs_l51 (x1 : Int32) (x2 : Int32) (x3 : Int32)  (n : Nat) (v : Int32 × iq_I) : Option (iq_I) := iq_lp (fun v => zM_costs_l51_b x1 x2 x3 v.1 v.2) n v
def zM_costs_l107_b (x1 : Int32) (x2 : Int32) (x3 : Int32) (x4 : Int32) (x5 : Int32) (x6 : Int32) (I : iq_I) (x7 : Int32) (x8 : Int32)  : Option ((Int32 × Int32) ⊕ (Int32)) :=
  if (I 76 2) ≤ x8 then (
    some (.inr x7)) else (
    (zM_leads x6 x8 I).bind fun q8 =>
    if ¬ q8 = (-1 : Int32) then (
      if iq_in x8 14 then (
        if iq_in (I 79 (Int32.toNatClampNeg x8)) 8 then (
          (zM_leads x6 x8 I).bind fun q9 =>
          if iq_in (((10 : Int32) * (x5 - (1 : Int32))) + q9) 410 then (
            if x7 ≤ ((I 81 (Int32.toNatClampNeg (I 79 (Int32.toNatClampNeg x8)))) + (I 107 (Int32.toNatClampNeg (((10 : Int32) * (x5 - (1 : Int32))) + q9)))) then (
              some (.inl (x7, (x8 + (1 : Int32))))) else (
              some (.inl (((I 81 (Int32.toNatClampNeg (I 79 (Int32.toNatClampNeg x8)))) + (I 107 (Int32.toNatClampNeg (((10 : Int32) * (x5 - (1 : Int32))) + q9)))), (x8 + (1 : Int32)))))) else none) else none) else none) else (
      some (.inl (x7, (x8 + (1 : Int32))))))
def zM_costs_l107 (x1 : Int32) (x2 : Int32) (x3 : Int32) (x4 : Int32) (x5 : Int32) (x6 : Int32) (I : iq_I) (n : Nat) (v : Int32 × Int32) : Option (Int32) := iq_lp (fun v => zM_costs_l107_b x1 x2 x3 x4 x5 x6 I v.1 v.2) n v
def zM_costs_l90_b (x1 : Int32) (x2 : Int32) (x3 : Int32) (x4 : Int32) (x5 : Int32)  (x6 : Int32) (I : iq_I) : Option ((Int32 × iq_I) ⊕ (iq_I)) :=
  if (I 76 1) ≤ x6 then (
    some (.inr I)) else (
    (zM_costs_l107 x1 x2 x3 x4 x5 x6 I ir_F ((1000000 : Int32), (0 : Int32))).bind fun w10 =>
    if iq_in (((10 : Int32) * x5) + x6) 410 then (
      ir_let (iq_upI I 107 (Int32.toNatClampNeg (((10 : Int32) * x5) + x6)) w10) fun I11 =>
      some (.inl ((x6 + (1 : Int32)), I11))) else none)
def zM_costs_l90 (x1 : Int32) (x2 : Int32) (x3 : Int32) (x4 : Int32) (x5 : Int32)  (n : Nat) (v : Int32 × iq_I) : Option (iq_I) := iq_lp (fun v => zM_costs_l90_b x1 x2 x3 x4 x5 v.1 v.2) n v
def zM_costs_l80_b (x1 : Int32) (x2 : Int32) (x3 : Int32)  (x4 : Int32) (x5 : Int32) (I : iq_I) : Option ((Int32 × Int32 × iq_I) ⊕ (Int32 × iq_I)) :=
  if (40 : Int32) < x5 then (
    some (.inr (x4, I))) else (
    (zM_costs_l90 x1 x2 x3 x4 x5 ir_F ((0 : Int32), I)).bind fun w12 =>
    if iq_in (((10 : Int32) * x5) + x1) 410 then (
      if x2 < (w12 107 (Int32.toNatClampNeg (((10 : Int32) * x5) + x1))) then (
        some (.inl (x4, (x5 + (1 : Int32)), w12))) else (
        some (.inl (x5, (x5 + (1 : Int32)), w12)))) else none)
def zM_costs_l80 (x1 : Int32) (x2 : Int32) (x3 : Int32)  (n : Nat) (v : Int32 × Int32 × iq_I) : Option (Int32 × iq_I) := iq_lp (fun v => zM_costs_l80_b x1 x2 x3 v.1 v.2.1 v.2.2) n v
def zM_costs_l273_b (x3 : Int32) (x4 : Int32) (x5 : Int32) (x6 : Int32) (x8 : Int32) (I : iq_I) (x9 : Int32)  : Option ((Int32) ⊕ (Int32)) :=
  (zM_leads x5 x9 I).bind fun q14 =>
  if q14 = (-1 : Int32) then (
    some (.inl (x9 + (1 : Int32)))) else (
    if iq_in x9 14 then (
      if iq_in (I 79 (Int32.toNatClampNeg x9)) 8 then (
        (zM_leads x5 x9 I).bind fun q15 =>
        if iq_in (((10 : Int32) * ((x4 - (1 : Int32)) - x8)) + q15) 410 then (
          if ((I 81 (Int32.toNatClampNeg (I 79 (Int32.toNatClampNeg x9)))) + (I 107 (Int32.toNatClampNeg (((10 : Int32) * ((x4 - (1 : Int32)) - x8)) + q15)))) ≤ x6 then (
            some (.inr x9)) else (
            some (.inl (x9 + (1 : Int32))))) else none) else none) else none)
def zM_costs_l273 (x3 : Int32) (x4 : Int32) (x5 : Int32) (x6 : Int32) (x8 : Int32) (I : iq_I) (n : Nat) (v : Int32) : Option (Int32) := iq_lp (fun v => zM_costs_l273_b x3 x4 x5 x6 x8 I v) n v
def zM_costs_l264_b (x3 : Int32) (x4 : Int32) (I : iq_I) (x5 : Int32) (x6 : Int32) (x7 : Int32) (x8 : Int32)  : Option ((Int32 × Int32 × Int32 × Int32) ⊕ (Int32)) :=
  if x3 < x8 then (
    some (.inr x7)) else (
    (zM_costs_l273 x3 x4 x5 x6 x8 I ir_F (0 : Int32)).bind fun w16 =>
    if iq_in w16 14 then (
      if iq_in (I 79 (Int32.toNatClampNeg w16)) 8 then (
        (zM_leads x5 w16 I).bind fun q17 =>
        some (.inl (q17, (x6 - (I 81 (Int32.toNatClampNeg (I 79 (Int32.toNatClampNeg w16))))), w16, (x8 + (1 : Int32))))) else none) else none)
def zM_costs_l264 (x3 : Int32) (x4 : Int32) (I : iq_I) (n : Nat) (v : Int32 × Int32 × Int32 × Int32) : Option (Int32) := iq_lp (fun v => zM_costs_l264_b x3 x4 I v.1 v.2.1 v.2.2.1 v.2.2.2) n v
def zM_costs_24 (x1 : Int32) (x2 : Int32) (x3 : Int32) (s1 : Int32) (I : iq_I) : Option (Int32 × iq_I) :=
  (zM_right s1 (1 : Int32) I).bind fun q3 =>
  if q3.1 = 0 then (
    some ((0 : Int32), q3.2)) else (
    (zM_within x2 (0 : Int32) (60 : Int32) q3.2).bind fun q4 =>
    (zM_right q4 (2 : Int32) q3.2).bind fun q5 =>
    if ¬ q5.1 = 0 then (
      (zM_costs_l51 x1 x2 x3 ir_F ((0 : Int32), q5.2)).bind fun w7 =>
      (zM_costs_l80 x1 x2 x3 ir_F ((0 : Int32), (1 : Int32), w7)).bind fun w13 =>
      if ¬ x3 = (-1 : Int32) then (
        if x3 < w13.1 then (
          (zM_costs_l264 x3 w13.1 w13.2 ir_F (x1, x2, (-1 : Int32), (0 : Int32))).bind fun w18 =>
          some (w18, w13.2)) else (
          some ((-1 : Int32), w13.2))) else (
        some (w13.1, w13.2))) else (
      some ((0 : Int32), q5.2)))
def zM_costs (x1 : Int32) (x2 : Int32) (x3 : Int32) (I : iq_I) : Option (Int32 × iq_I) :=
  ir_let (iq_upI I 76 0 (0 : Int32)) fun I1 =>
  (zM_isState x1 I1).bind fun q2 =>
  if q2.1 = 0 then (
    some ((0 : Int32), q2.2)) else (
    if x3 < (-1 : Int32) then (
      zM_costs_24 x1 x2 x3 (0 : Int32) q2.2) else (
      zM_costs_24 x1 x2 x3 (1 : Int32) q2.2))
def zP_playOut_l17_b   (x1 : Int32) (I : iq_I) : Option ((Int32 × iq_I) ⊕ (iq_I)) :=
  if (I 4 0) < x1 then (
    some (.inr I)) else (
    (zP_allStates I).bind fun q4 =>
    (zP_allStates I).bind fun q5 =>
    (zP_leadingInto q5 ((I 63 7) ^^^ (-1 : Int32)) I).bind fun q6 =>
    ir_let (iq_upI I 63 6 (q4 &&& (q6 ^^^ (-1 : Int32)))) fun I7 =>
    (zP_allStates I7).bind fun q8 =>
    (zP_leadingInto q8 (I7 63 6) I7).bind fun q9 =>
    ir_let (iq_upI I7 63 7 q9) fun I10 =>
    some (.inl ((x1 + (1 : Int32)), I10)))
def zP_playOut_l17   (n : Nat) (v : Int32 × iq_I) : Option (iq_I) := iq_lp (fun v => zP_playOut_l17_b  v.1 v.2) n v
def zP_playOut  (I : iq_I) : Option (iq_I) :=
  (zP_lookBehind (0 : Int32) I).bind fun q1 =>
  ir_let (iq_upI q1 63 6 (0 : Int32)) fun I2 =>
  ir_let (iq_upI I2 63 7 (0 : Int32)) fun I3 =>
  (zP_playOut_l17  ir_F ((0 : Int32), I3)).bind fun w11 =>
  some w11
def zP_inTurn (x1 : Int32) (I : iq_I) : Option (Int32 × iq_I) :=
  (zP_playOut I).bind fun q1 =>
  if (((q1 63 7) >>> (x1 &&& 31)) &&& (1 : Int32)) = 0 then (
    if (((q1 63 6) >>> (x1 &&& 31)) &&& (1 : Int32)) = 0 then (
      some ((0 : Int32), q1)) else (
      some ((2 : Int32), q1))) else (
    some ((1 : Int32), q1))
def zP_winningWord_l6_b (x1 : Int32) (I : iq_I) (x2 : Int32)  : Option ((Int32) ⊕ ((Unit) ⊕ (Int32 × iq_I))) :=
  if (I 4 2) ≤ x2 then (
    some (.inr (.inl ()))) else (
    (zU_leadsTo_4 x1 x2 I).bind fun q2 =>
    if q2 = (-1 : Int32) then (
      some (.inl (x2 + (1 : Int32)))) else (
      if (((I 63 6) >>> (q2 &&& 31)) &&& (1 : Int32)) = 0 then (
        some (.inl (x2 + (1 : Int32)))) else (
        some (.inr (.inr (x2, I))))))
def zP_winningWord_l6 (x1 : Int32) (I : iq_I) (n : Nat) (v : Int32) : Option ((Unit) ⊕ (Int32 × iq_I)) := iq_lp (fun v => zP_winningWord_l6_b x1 I v) n v
def zP_winningWord (x1 : Int32) (I : iq_I) : Option (Int32 × iq_I) :=
  (zP_playOut I).bind fun q1 =>
  (zP_winningWord_l6 x1 q1 ir_F (0 : Int32)).bind fun w3 =>
  ir_sm w3 (fun a4 =>
    some ((-1 : Int32), q1)) (fun b5 => some b5)
def zO_turn (x1 : Int32) (x2 : Int32) (I : iq_I) (X : iq_X) : Option ((Int32 ⊕ Nat) × iq_I × iq_X) :=
  (zO_needState x1 I X).bind fun q1 =>
  iq_sm q1.1 (fun a2 =>
    (zO_needOneOfTwo x2 I q1.2).bind fun q4 =>
    iq_sm q4.1 (fun a5 =>
      if ¬ x2 = 0 then (
        (zP_winningWord x1 I).bind fun q7 =>
        some (.inl q7.1, q7.2, q4.2)) else (
        (zP_inTurn x1 I).bind fun q8 =>
        some (.inl q8.1, q8.2, q4.2))) (fun k6 => some (.inr k6, I, q4.2))) (fun k3 => some (.inr k3, I, q1.2))
def zL_turn (x1 : Int32) (x2 : Int32) (I : iq_I) (J : iq_J) (X : iq_X) : Option (Int32 × iq_I × iq_J × iq_X) :=
  (zO_turn x1 x2 I X).bind fun q1 =>
  iq_sm q1.1 (fun a2 =>
    ir_let (iq_upJ J 114 0 (Int32.toInt64 a2)) fun J4 =>
    some ((0 : Int32), q1.2.1, J4, q1.2.2)) (fun k3 => if k3 = 0 then (
    some ((1 : Int32), q1.2.1, J, q1.2.2)) else (
  if k3 = 1 then (
    none) else none))
def zM_plays_l2_b   (x1 : Int32) (I : iq_I) : Option ((Int32 × iq_I) ⊕ (iq_I)) :=
  if (I 76 1) ≤ x1 then (
    some (.inr I)) else (
    if iq_in x1 10 then (
      ir_let (iq_upI I 106 (Int32.toNatClampNeg x1) (0 : Int32)) fun I1 =>
      some (.inl ((x1 + (1 : Int32)), I1))) else none)
def zM_plays_l2   (n : Nat) (v : Int32 × iq_I) : Option (iq_I) := iq_lp (fun v => zM_plays_l2_b  v.1 v.2) n v
def zM_plays_109 (x1 : Int32) (x2 : Int32) (x4 : Int32) (x5 : Int32) (s0 : Int32) (I : iq_I) : Option ((Int32 × Int32 × Int32) ⊕ (Int32 × Int32)) :=
  if ¬ x4 = 0 then (
    some (.inl (s0, (1 : Int32), (x5 + (1 : Int32))))) else (
    (zM_leads x2 x5 I).bind fun q4 =>
    if iq_in q4 10 then (
      if ¬ (I 106 (Int32.toNatClampNeg q4)) = (2 : Int32) then (
        some (.inl (s0, (0 : Int32), (x5 + (1 : Int32))))) else (
        some (.inl (s0, (1 : Int32), (x5 + (1 : Int32)))))) else none)
def zM_plays_108 (x1 : Int32) (x2 : Int32) (x4 : Int32) (x5 : Int32) (I : iq_I) : Option ((Int32 × Int32 × Int32) ⊕ (Int32 × Int32)) :=
  zM_plays_109 x1 x2 x4 x5 (0 : Int32) I
def zM_plays_l61_b (x1 : Int32) (x2 : Int32) (I : iq_I) (x3 : Int32) (x4 : Int32) (x5 : Int32)  : Option ((Int32 × Int32 × Int32) ⊕ (Int32 × Int32)) :=
  if (I 76 2) ≤ x5 then (
    some (.inr (x3, x4))) else (
    (zM_leads x2 x5 I).bind fun q3 =>
    if ¬ q3 = (-1 : Int32) then (
      if x3 = 0 then (
        zM_plays_108 x1 x2 x4 x5 I) else (
        (zM_leads x2 x5 I).bind fun q5 =>
        if iq_in q5 10 then (
          if ¬ (I 106 (Int32.toNatClampNeg q5)) = (1 : Int32) then (
            zM_plays_108 x1 x2 x4 x5 I) else (
            zM_plays_109 x1 x2 x4 x5 (1 : Int32) I)) else none)) else (
      some (.inl (x3, x4, (x5 + (1 : Int32))))))
def zM_plays_l61 (x1 : Int32) (x2 : Int32) (I : iq_I) (n : Nat) (v : Int32 × Int32 × Int32) : Option (Int32 × Int32) := iq_lp (fun v => zM_plays_l61_b x1 x2 I v.1 v.2.1 v.2.2) n v
def zM_plays_171 (x2 : Int32) (s1 : Int32) (s2 : Int32) (I : iq_I) : Option ((Int32 × Int32 × iq_I) ⊕ (Int32 × iq_I)) :=
  if iq_in s1 10 then (
    ir_let (iq_upI I 106 (Int32.toNatClampNeg s1) s2) fun I7 =>
    some (.inl ((1 : Int32), (x2 + (1 : Int32)), I7))) else none
def zM_plays_156 (x2 : Int32) (x4 : Int32) (I : iq_I) : Option ((Int32 × Int32 × iq_I) ⊕ (Int32 × iq_I)) :=
  if x4 = 0 then (
    zM_plays_171 x2 x2 (2 : Int32) I) else (
    zM_plays_171 x2 x2 (1 : Int32) I)
def zM_plays_l33_b   (x1 : Int32) (x2 : Int32) (I : iq_I) : Option ((Int32 × Int32 × iq_I) ⊕ (Int32 × iq_I)) :=
  if (I 76 1) ≤ x2 then (
    some (.inr (x1, I))) else (
    if iq_in x2 10 then (
      if (I 106 (Int32.toNatClampNeg x2)) = 0 then (
        (zM_plays_l61 x1 x2 I ir_F ((1 : Int32), (0 : Int32), (0 : Int32))).bind fun w6 =>
        if ¬ w6.1 = 0 then (
          zM_plays_156 x2 w6.2 I) else (
          if ¬ w6.2 = 0 then (
            zM_plays_156 x2 w6.2 I) else (
            some (.inl (x1, (x2 + (1 : Int32)), I))))) else (
        some (.inl (x1, (x2 + (1 : Int32)), I)))) else none)
def zM_plays_l33   (n : Nat) (v : Int32 × Int32 × iq_I) : Option (Int32 × iq_I) := iq_lp (fun v => zM_plays_l33_b  v.1 v.2.1 v.2.2) n v
def zM_plays_l25_b   (x1 : Int32) (I : iq_I) : Option ((Int32 × iq_I) ⊕ (iq_I)) :=
  if x1 = 0 then (
    some (.inr I)) else (
    (zM_plays_l33  ir_F ((0 : Int32), (0 : Int32), I)).bind fun w8 =>
    some (.inl (w8.1, w8.2)))
def zM_plays_l25   (n : Nat) (v : Int32 × iq_I) : Option (iq_I) := iq_lp (fun v => zM_plays_l25_b  v.1 v.2) n v
def zM_plays  (I : iq_I) : Option (iq_I) :=
  (zM_plays_l2  ir_F ((0 : Int32), I)).bind fun w2 =>
  (zM_plays_l25  ir_F ((1 : Int32), w2)).bind fun w9 =>
  some w9
def zM_turn_l41_b (x1 : Int32) (I : iq_I) (x3 : Int32)  : Option ((Int32) ⊕ ((Unit) ⊕ (Int32 × iq_I))) :=
  if (I 76 2) ≤ x3 then (
    some (.inr (.inl ()))) else (
    (zM_leads x1 x3 I).bind fun q5 =>
    if q5 = (-1 : Int32) then (
      some (.inl (x3 + (1 : Int32)))) else (
      (zM_leads x1 x3 I).bind fun q6 =>
      if iq_in q6 10 then (
        if ¬ (I 106 (Int32.toNatClampNeg q6)) = (2 : Int32) then (
          some (.inl (x3 + (1 : Int32)))) else (
          some (.inr (.inr (x3, I))))) else none))
def zM_turn_l41 (x1 : Int32) (I : iq_I) (n : Nat) (v : Int32) : Option ((Unit) ⊕ (Int32 × iq_I)) := iq_lp (fun v => zM_turn_l41_b x1 I v) n v
def zM_turn (x1 : Int32) (x2 : Int32) (I : iq_I) : Option (Int32 × iq_I) :=
  ir_let (iq_upI I 76 0 (0 : Int32)) fun I1 =>
  (zM_isState x1 I1).bind fun q2 =>
  if q2.1 = 0 then (
    some ((0 : Int32), q2.2)) else (
    (zM_isWhat x2 (1 : Int32) q2.2).bind fun q3 =>
    if ¬ q3.1 = 0 then (
      (zM_plays q3.2).bind fun q4 =>
      if ¬ x2 = 0 then (
        (zM_turn_l41 x1 q4 ir_F (0 : Int32)).bind fun w7 =>
        ir_sm w7 (fun a8 =>
          some ((-1 : Int32), q4)) (fun b9 => some b9)) else (
        if iq_in x1 10 then (
          some ((q4 106 (Int32.toNatClampNeg x1)), q4)) else none)) else (
      some ((0 : Int32), q3.2)))
