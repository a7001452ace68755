/-! ===== the methods as pure functions (printed by wip/whole/emitall.py, split.py) ===== -/
def zM_mends_l9_b (x1 : Int32) (x2 : Int32)  (x3 : Int32) (I : iq_I) : Option ((Int32 × iq_I) ⊕ (iq_I)) :=
  if (I 76 1) ≤ x3 then (
    some (.inr I)) else (
    if iq_in (((10 : Int32) * x2) + x3) 410 then (
      ir_let (iq_upI I 110 (Int32.toNatClampNeg (((10 : Int32) * x2) + x3)) (0 : Int32)) fun I1 =>
      some (.inl ((x3 + (1 : Int32)), I1))) else none)
def zM_mends_l9 (x1 : Int32) (x2 : Int32)  (n : Nat) (v : Int32 × iq_I) : Option (iq_I) := iq_lp (fun v => zM_mends_l9_b x1 x2 v.1 v.2) n v
def zM_mends_127 (x1 : Int32) (x3 : Int32) (x4 : Int32) (x5 : Int32) (x6 : Int32) (s0 : Int32) (s1 : Int32) (I : iq_I) : Option ((Int32 × Int32) ⊕ (Int32)) :=
  if x5 ≤ (s0 + s1) then (
    some (.inl (x5, (x6 + (1 : Int32))))) else (
    some (.inl ((s0 + s1), (x6 + (1 : Int32)))))
def zM_mends_l62_b (x1 : Int32) (x3 : Int32) (x4 : Int32) (I : iq_I) (x5 : Int32) (x6 : Int32)  : Option ((Int32 × Int32) ⊕ (Int32)) :=
  if (I 76 2) ≤ x6 then (
    some (.inr x5)) else (
    (zM_leads x4 x6 I).bind fun q3 =>
    if ¬ q3 = (-1 : Int32) then (
      (zM_leads x4 x6 I).bind fun q4 =>
      if iq_in ((((10 : Int32) * x3) + (10 : Int32)) + q4) 410 then (
        (zM_wordAt_76_98 x1 x3 I).bind fun q5 =>
        if ¬ q5 = x6 then (
          zM_mends_127 x1 x3 x4 x5 x6 (I 110 (Int32.toNatClampNeg ((((10 : Int32) * x3) + (10 : Int32)) + q4))) (1 : Int32) I) else (
          zM_mends_127 x1 x3 x4 x5 x6 (I 110 (Int32.toNatClampNeg ((((10 : Int32) * x3) + (10 : Int32)) + q4))) (0 : Int32) I)) else none) else (
      some (.inl (x5, (x6 + (1 : Int32))))))
def zM_mends_l62 (x1 : Int32) (x3 : Int32) (x4 : Int32) (I : iq_I) (n : Nat) (v : Int32 × Int32) : Option (Int32) := iq_lp (fun v => zM_mends_l62_b x1 x3 x4 I v.1 v.2) n v
def zM_mends_l46_b (x1 : Int32) (x3 : Int32)  (x4 : Int32) (I : iq_I) : Option ((Int32 × iq_I) ⊕ (iq_I)) :=
  if (I 76 1) ≤ x4 then (
    some (.inr I)) else (
    (zM_mends_l62 x1 x3 x4 I ir_F ((99 : Int32), (0 : Int32))).bind fun w6 =>
    if iq_in (((10 : Int32) * x3) + x4) 410 then (
      ir_let (iq_upI I 110 (Int32.toNatClampNeg (((10 : Int32) * x3) + x4)) w6) fun I7 =>
      some (.inl ((x4 + (1 : Int32)), I7))) else none)
def zM_mends_l46 (x1 : Int32) (x3 : Int32)  (n : Nat) (v : Int32 × iq_I) : Option (iq_I) := iq_lp (fun v => zM_mends_l46_b x1 x3 v.1 v.2) n v
def zM_mends_l39_b (x1 : Int32)  (x3 : Int32) (I : iq_I) : Option ((Int32 × iq_I) ⊕ (iq_I)) :=
  if x3 < 0 then (
    some (.inr I)) else (
    (zM_mends_l46 x1 x3 ir_F ((0 : Int32), I)).bind fun w8 =>
    some (.inl ((x3 + (-1 : Int32)), w8)))
def zM_mends_l39 (x1 : Int32)  (n : Nat) (v : Int32 × iq_I) : Option (iq_I) := iq_lp (fun v => zM_mends_l39_b x1 v.1 v.2) n v
def zM_mends (x1 : Int32) (I : iq_I) : Option (iq_I) :=
  if iq_in x1 206 then (
    (zM_mends_l9 x1 (I 98 (Int32.toNatClampNeg x1)) ir_F ((0 : Int32), I)).bind fun w2 =>
    (zM_mends_l39 x1 ir_F (((I 98 (Int32.toNatClampNeg x1)) - (1 : Int32)), w2)).bind fun w9 =>
    some w9) else none
def zM_mend_176 (x1 : Int32) (x2 : Int32) (x4 : Int32) (x6 : Int32) (x7 : Int32) (s0 : Int32) (s1 : Int32) (I : iq_I) : Option ((Int32) ⊕ (Int32)) :=
  if iq_in (((10 : Int32) * x6) + x4) 410 then (
    if (s0 + s1) = (I 110 (Int32.toNatClampNeg (((10 : Int32) * x6) + x4))) then (
      some (.inr x7)) else (
      some (.inl (x7 + (1 : Int32))))) else none
def zM_mend_l121_b (x1 : Int32) (x2 : Int32) (x4 : Int32) (x6 : Int32) (I : iq_I) (x7 : Int32)  : Option ((Int32) ⊕ (Int32)) :=
  (zM_leads x4 x7 I).bind fun q6 =>
  if q6 = (-1 : Int32) then (
    some (.inl (x7 + (1 : Int32)))) else (
    (zM_leads x4 x7 I).bind fun q7 =>
    if iq_in ((((10 : Int32) * x6) + (10 : Int32)) + q7) 410 then (
      (zM_wordAt_76_98 x1 x6 I).bind fun q8 =>
      if ¬ q8 = x7 then (
        zM_mend_176 x1 x2 x4 x6 x7 (I 110 (Int32.toNatClampNeg ((((10 : Int32) * x6) + (10 : Int32)) + q7))) (1 : Int32) I) else (
        zM_mend_176 x1 x2 x4 x6 x7 (I 110 (Int32.toNatClampNeg ((((10 : Int32) * x6) + (10 : Int32)) + q7))) (0 : Int32) I)) else none)
def zM_mend_l121 (x1 : Int32) (x2 : Int32) (x4 : Int32) (x6 : Int32) (I : iq_I) (n : Nat) (v : Int32) : Option (Int32) := iq_lp (fun v => zM_mend_l121_b x1 x2 x4 x6 I v) n v
def zM_mend_l112_b (x1 : Int32) (x2 : Int32) (I : iq_I) (x4 : Int32) (x5 : Int32) (x6 : Int32)  : Option ((Int32 × Int32 × Int32) ⊕ (Int32)) :=
  if x2 < x6 then (
    some (.inr x5)) else (
    (zM_mend_l121 x1 x2 x4 x6 I ir_F (0 : Int32)).bind fun w9 =>
    (zM_leads x4 w9 I).bind fun q10 =>
    some (.inl (q10, w9, (x6 + (1 : Int32)))))
def zM_mend_l112 (x1 : Int32) (x2 : Int32) (I : iq_I) (n : Nat) (v : Int32 × Int32 × Int32) : Option (Int32) := iq_lp (fun v => zM_mend_l112_b x1 x2 I v.1 v.2.1 v.2.2) n v
def zM_mend_89 (x1 : Int32) (x2 : Int32) (s1 : Int32) (I : iq_I) : Option (Int32 × iq_I) :=
  (zM_right s1 (1 : Int32) I).bind fun q5 =>
  if ¬ q5.1 = 0 then (
    if iq_in x1 5 then (
      (zM_mend_l112 x1 x2 q5.2 ir_F ((q5.2 83 (Int32.toNatClampNeg x1)), (-1 : Int32), (0 : Int32))).bind fun w11 =>
      some (w11, q5.2)) else none) else (
    some ((0 : Int32), q5.2))
def zM_mend_34 (x1 : Int32) (x2 : Int32) (s1 : Int32) (I : iq_I) : Option (Int32 × iq_I) :=
  (zM_right s1 (1 : Int32) I).bind fun q3 =>
  if ¬ q3.1 = 0 then (
    (zM_mends x1 q3.2).bind fun q4 =>
    if iq_in x1 5 then (
      if iq_in (q4 83 (Int32.toNatClampNeg x1)) 410 then (
        if ¬ x2 = (-1 : Int32) then (
          if (99 : Int32) ≤ (q4 110 (Int32.toNatClampNeg (q4 83 (Int32.toNatClampNeg x1)))) then (
            zM_mend_89 x1 x2 (0 : Int32) q4) else (
            zM_mend_89 x1 x2 (1 : Int32) q4)) else (
          if (q4 110 (Int32.toNatClampNeg (q4 83 (Int32.toNatClampNeg x1)))) < (99 : Int32) then (
            some ((q4 110 (Int32.toNatClampNeg (q4 83 (Int32.toNatClampNeg x1)))), q4)) else (
            some ((-1 : Int32), q4)))) else none) else none) else (
    some ((0 : Int32), q3.2))
def zM_mend_33 (x1 : Int32) (x2 : Int32) (I : iq_I) : Option (Int32 × iq_I) :=
  zM_mend_34 x1 x2 (0 : Int32) I
def zM_mend (x1 : Int32) (x2 : Int32) (I : iq_I) : Option (Int32 × iq_I) :=
  ir_let (iq_upI I 76 0 (0 : Int32)) fun I1 =>
  (zM_isSaying x1 I1).bind fun q2 =>
  if q2.1 = 0 then (
    some ((0 : Int32), q2.2)) else (
    if x2 < (-1 : Int32) then (
      zM_mend_33 x1 x2 q2.2) else (
      if iq_in x1 206 then (
        if (q2.2 98 (Int32.toNatClampNeg x1)) ≤ x2 then (
          zM_mend_33 x1 x2 q2.2) else (
          zM_mend_34 x1 x2 (1 : Int32) q2.2)) else none))
def zU_stateFrom_4_16_l13_b (x2 : Int32) (x4 : Int32) (x6 : Int32) (I : iq_I) (x5 : Int32) (x7 : Int32)  : Option ((Int32 × Int32) ⊕ (Int32)) :=
  if x6 ≤ x7 then (
    some (.inr x5)) else (
    if x5 = (-1 : Int32) then (
      some (.inr x5)) else (
      if x7 = x4 then (
        some (.inl (x5, (x7 + (1 : Int32))))) else (
        (zG_wordAt_16 x2 x7 I).bind fun q2 =>
        (zU_leadsTo_4 x5 q2 I).bind fun q3 =>
        some (.inl (q3, (x7 + (1 : Int32)))))))
def zU_stateFrom_4_16_l13 (x2 : Int32) (x4 : Int32) (x6 : Int32) (I : iq_I) (n : Nat) (v : Int32 × Int32) : Option (Int32) := iq_lp (fun v => zU_stateFrom_4_16_l13_b x2 x4 x6 I v.1 v.2) n v
def zU_stateFrom_4_16 (x2 : Int32) (x3 : Int32) (x4 : Int32) (I : iq_I) : Option (Int32) :=
  (zG_lengthOf_16 x2 I).bind fun q1 =>
  (zU_stateFrom_4_16_l13 x2 x4 q1 I ir_F (x3, (0 : Int32))).bind fun w4 =>
  some w4
def zU_stateOf_4_16 (x2 : Int32) (I : iq_I) : Option (Int32) :=
  (zG_beginOf_16 x2 I).bind fun q1 =>
  (zU_stateFrom_4_16 x2 q1 (-1 : Int32) I).bind fun q2 =>
  some q2
def zU_leadsBy_4 (x1 : Int32) (x2 : Int32) (I : iq_I) : Option (Int32) :=
  if x1 < 0 then (
    some (-1 : Int32)) else (
    if (I 4 0) ≤ x1 then (
      some (-1 : Int32)) else (
      if x2 < 0 then (
        some (-1 : Int32)) else (
        if x2 < (8 : Int32) then (
          if iq_in ((x1 * (8 : Int32)) + x2) 80 then (
            some (I 14 (Int32.toNatClampNeg ((x1 * (8 : Int32)) + x2)))) else none) else (
          some (-1 : Int32)))))
def zU_someFollows_l2_b (x1 : Int32) (I : iq_I) (x2 : Int32)  : Option ((Int32) ⊕ ((Unit) ⊕ (Int32))) :=
  if (8 : Int32) ≤ x2 then (
    some (.inr (.inl ()))) else (
    if (((I 4 4) >>> (x2 &&& 31)) &&& (1 : Int32)) = 0 then (
      some (.inl (x2 + (1 : Int32)))) else (
      (zU_leadsBy_4 x1 x2 I).bind fun q1 =>
      if q1 = (-1 : Int32) then (
        some (.inl (x2 + (1 : Int32)))) else (
        some (.inr (.inr (1 : Int32))))))
def zU_someFollows_l2 (x1 : Int32) (I : iq_I) (n : Nat) (v : Int32) : Option ((Unit) ⊕ (Int32)) := iq_lp (fun v => zU_someFollows_l2_b x1 I v) n v
def zU_someFollows (x1 : Int32) (I : iq_I) : Option (Int32) :=
  (zU_someFollows_l2 x1 I ir_F (0 : Int32)).bind fun w2 =>
  ir_sm w2 (fun a3 =>
    some (0 : Int32)) (fun b4 => some b4)
def zH_isFree_69_16 (x2 : Int32) (x3 : Int32) (x4 : Int32) (I : iq_I) : Option (Int32) :=
  (zU_leadsTo_4 x3 x4 I).bind fun q1 =>
  if q1 = (-1 : Int32) then (
    some (0 : Int32)) else (
    (zU_someFollows q1 I).bind fun q2 =>
    if q2 = 0 then (
      some (0 : Int32)) else (
      (zG_lengthOf_16 x2 I).bind fun q3 =>
      if (40 : Int32) ≤ q3 then (
        some (0 : Int32)) else (
        some (1 : Int32))))
def zU_lastLetter (x1 : Int32) (I : iq_I) : Option (Int32) :=
  if x1 < 0 then (
    some (0 : Int32)) else (
    if (I 4 2) ≤ x1 then (
      some (0 : Int32)) else (
      if iq_in x1 14 then (
        if (I 5 (Int32.toNatClampNeg x1)) ≤ 0 then (
          some (0 : Int32)) else (
          if iq_in x1 14 then (
            if (I 5 (Int32.toNatClampNeg x1)) ≤ (9 : Int32) then (
              if iq_in x1 14 then (
                if iq_in (((x1 * (9 : Int32)) + (I 5 (Int32.toNatClampNeg x1))) - (1 : Int32)) 126 then (
                  some (I 13 (Int32.toNatClampNeg (((x1 * (9 : Int32)) + (I 5 (Int32.toNatClampNeg x1))) - (1 : Int32))))) else none) else none) else (
              some (0 : Int32))) else none)) else none))
def zU_lengthOf_4 (x1 : Int32) (I : iq_I) : Option (Int32) :=
  if x1 < 0 then (
    some (0 : Int32)) else (
    if x1 < (I 4 2) then (
      if iq_in x1 14 then (
        some (I 5 (Int32.toNatClampNeg x1))) else none) else (
      some (0 : Int32)))
def zH_fillValues_69_16_130 (s1 : Int32) (s2 : Int32) (I : iq_I) : Option (iq_I) :=
  if iq_in s1 7 then (
    ir_let (iq_upI I 70 (Int32.toNatClampNeg s1) s2) fun I12 =>
    some I12) else none
def zH_fillValues_69_16_49 (x2 : Int32) (x3 : Int32) (x4 : Int32) (x5 : Int32) (s0 : Int32) (I : iq_I) : Option (iq_I) :=
  (zU_kindOf x3 I).bind fun q3 =>
  ir_let (iq_upI I 70 0 q3) fun I4 =>
  (zU_lengthOf_4 x3 I4).bind fun q5 =>
  ir_let (iq_upI I4 70 1 q5) fun I6 =>
  ir_let (iq_upI I6 70 2 x3) fun I7 =>
  ir_let (iq_upI I7 70 3 x4) fun I8 =>
  ir_let (iq_upI I8 70 4 x5) fun I9 =>
  (zG_timesIn_16 x2 x3 I9).bind fun q10 =>
  ir_let (iq_upI I9 70 5 q10) fun I11 =>
  if s0 = 0 then (
    zH_fillValues_69_16_130 (6 : Int32) (0 : Int32) I11) else (
    zH_fillValues_69_16_130 (6 : Int32) (1 : Int32) I11)
def zH_fillValues_69_16_48 (x2 : Int32) (x3 : Int32) (x4 : Int32) (x5 : Int32) (I : iq_I) : Option (iq_I) :=
  zH_fillValues_69_16_49 x2 x3 x4 x5 (0 : Int32) I
def zH_fillValues_69_16 (x2 : Int32) (x3 : Int32) (x4 : Int32) (I : iq_I) : Option (iq_I) :=
  (zG_lengthOf_16 x2 I).bind fun q1 =>
  (zG_wordAt_16 x2 (q1 - (1 : Int32)) I).bind fun q2 =>
  if q2 = (-1 : Int32) then (
    zH_fillValues_69_16_48 x2 x3 x4 q1 I) else (
    (zU_lastLetter q2 I).bind fun q13 =>
    (zU_lastLetter x3 I).bind fun q14 =>
    if ¬ q13 = q14 then (
      zH_fillValues_69_16_48 x2 x3 x4 q1 I) else (
      zH_fillValues_69_16_49 x2 x3 x4 q1 (1 : Int32) I))
def zE_valueOf (x0 : Int32) (I : iq_I) : Option (Int32) :=
  if ((-1 : Int32) - x0) < 0 then (
    some (0 : Int32)) else (
    if (7 : Int32) ≤ ((-1 : Int32) - x0) then (
      some (0 : Int32)) else (
      if iq_in ((-1 : Int32) - x0) 7 then (
        some (I 70 (Int32.toNatClampNeg ((-1 : Int32) - x0)))) else none))
def zE_join_83 (x1 : Int32) (x2 : Int32) (I : iq_I) : Option (Int32) :=
  if ¬ x1 = x2 then (
    some (0 : Int32)) else (
    some (1 : Int32))
def zE_join_72 (x1 : Int32) (x2 : Int32) (I : iq_I) : Option (Int32) :=
  if x2 ≤ x1 then (
    some (0 : Int32)) else (
    some (1 : Int32))
def zE_join_58 (x1 : Int32) (x2 : Int32) (I : iq_I) : Option (Int32) :=
  if x1 = 0 then (
    some (0 : Int32)) else (
    if x2 = 0 then (
      some (0 : Int32)) else (
      some (1 : Int32)))
def zE_join_44 (x1 : Int32) (x2 : Int32) (I : iq_I) : Option (Int32) :=
  if ¬ x1 = 0 then (
    some (1 : Int32)) else (
    if x2 = 0 then (
      some (0 : Int32)) else (
      some (1 : Int32)))
def zE_join_106 (x1 : Int32) (x2 : Int32) (I : iq_I) : Option (Int32) :=
  if ¬ x2 = 0 then (
    if x2 = 0 then none else (
      some (x1 / x2))) else (
    some (0 : Int32))
def zE_join (x0 : Int32) (x1 : Int32) (x2 : Int32) (I : iq_I) : Option (Int32) :=
  if x0 = (-15 : Int32) then (
    some (x1 * x2)) else (
  if x0 = (-14 : Int32) then (
    some (x1 - x2)) else (
  if x0 = (-13 : Int32) then (
    some (x1 + x2)) else (
  if x0 = (-12 : Int32) then (
    zE_join_83 x1 x2 I) else (
  if x0 = (-11 : Int32) then (
    zE_join_72 x1 x2 I) else (
  if x0 = (-10 : Int32) then (
    zE_join_58 x1 x2 I) else (
  if x0 = (-9 : Int32) then (
    zE_join_44 x1 x2 I) else (
  zE_join_106 x1 x2 I)))))))
