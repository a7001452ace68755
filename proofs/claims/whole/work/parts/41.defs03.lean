/-! ===== the methods as pure functions (printed by wip/whole/emitall.py, split.py) ===== -/
def zE_give_133 (x1 : Int32) (x3 : Int32) (x4 : Int32) (s1 : Int32) (s2 : Int32) (I : iq_I) : Option ((Int32 × Int32 × iq_I) ⊕ (Int32 × iq_I)) :=
  if iq_in s1 64 then (
    ir_let (iq_upI I 12 (Int32.toNatClampNeg s1) s2) fun I3 =>
    some (.inl (x3, (x4 + (1 : Int32)), I3))) else none
def zE_give_92 (x1 : Int32) (x3 : Int32) (x4 : Int32) (s1 : Int32) (s2 : Int32) (I : iq_I) : Option ((Int32 × Int32 × iq_I) ⊕ (Int32 × iq_I)) :=
  if iq_in s1 64 then (
    ir_let (iq_upI I 12 (Int32.toNatClampNeg s1) s2) fun I5 =>
    some (.inl ((x3 + (1 : Int32)), (x4 + (1 : Int32)), I5))) else none
def zE_give_l25_b (x1 : Int32)  (x3 : Int32) (x4 : Int32) (I : iq_I) : Option ((Int32 × Int32 × iq_I) ⊕ (Int32 × iq_I)) :=
  if iq_in x1 5 then (
    if (I 11 (Int32.toNatClampNeg x1)) ≤ x4 then (
      some (.inr (x3, I))) else (
      if (700 : Int32) ≤ x4 then (
        some (.inr (x3, I))) else (
        if iq_in x4 700 then (
          if (I 9 (Int32.toNatClampNeg x4)) ≤ (-8 : Int32) then (
            if ¬ (I 9 (Int32.toNatClampNeg x4)) = (-8 : Int32) then (
              if x3 ≤ (1 : Int32) then (
                some (.inl (x3, (x4 + (1 : Int32)), I))) else (
                if iq_in ((x3 + (-1 : Int32)) - (1 : Int32)) 64 then (
                  if iq_in (x3 + (-1 : Int32)) 64 then (
                    (zE_join (I 9 (Int32.toNatClampNeg x4)) (I 12 (Int32.toNatClampNeg ((x3 + (-1 : Int32)) - (1 : Int32)))) (I 12 (Int32.toNatClampNeg (x3 + (-1 : Int32)))) I).bind fun q1 =>
                    if iq_in ((x3 + (-1 : Int32)) - (1 : Int32)) 64 then (
                      ir_let (iq_upI I 12 (Int32.toNatClampNeg ((x3 + (-1 : Int32)) - (1 : Int32))) q1) fun I2 =>
                      some (.inl ((x3 + (-1 : Int32)), (x4 + (1 : Int32)), I2))) else none) else none) else none)) else (
              if x3 ≤ 0 then (
                some (.inl (x3, (x4 + (1 : Int32)), I))) else (
                if iq_in (x3 - (1 : Int32)) 64 then (
                  if ¬ (I 12 (Int32.toNatClampNeg (x3 - (1 : Int32)))) = 0 then (
                    zE_give_133 x1 x3 x4 (x3 - (1 : Int32)) (0 : Int32) I) else (
                    zE_give_133 x1 x3 x4 (x3 - (1 : Int32)) (1 : Int32) I)) else none))) else (
            if (64 : Int32) ≤ x3 then (
              some (.inl (x3, (x4 + (1 : Int32)), I))) else (
              if (I 9 (Int32.toNatClampNeg x4)) < 0 then (
                (zE_valueOf (I 9 (Int32.toNatClampNeg x4)) I).bind fun q4 =>
                zE_give_92 x1 x3 x4 x3 q4 I) else (
                zE_give_92 x1 x3 x4 x3 (I 9 (Int32.toNatClampNeg x4)) I)))) else none))) else none
def zE_give_l25 (x1 : Int32)  (n : Nat) (v : Int32 × Int32 × iq_I) : Option (Int32 × iq_I) := iq_lp (fun v => zE_give_l25_b x1 v.1 v.2.1 v.2.2) n v
def zE_give_178 (x3 : Int32) (I : iq_I) : Option (Int32 × iq_I) :=
  if x3 ≤ 0 then (
    some ((0 : Int32), I)) else (
    some ((I 12 0), I))
def zE_give (x1 : Int32) (I : iq_I) : Option (Int32 × iq_I) :=
  if x1 < 0 then (
    some ((0 : Int32), I)) else (
    if x1 < (5 : Int32) then (
      if iq_in x1 5 then (
        (zE_give_l25 x1 ir_F ((0 : Int32), (I 10 (Int32.toNatClampNeg x1)), I)).bind fun w6 =>
        zE_give_178 w6.1 w6.2) else none) else (
      some ((0 : Int32), I)))
def zH_isLawful_69_16 (x2 : Int32) (x3 : Int32) (x4 : Int32) (I : iq_I) : Option (Int32 × iq_I) :=
  if ¬ (I 8 1) = 0 then (
    (zH_fillValues_69_16 x2 x3 x4 I).bind fun q1 =>
    (zE_give (4 : Int32) q1).bind fun q2 =>
    if q2.1 = 0 then (
      some ((0 : Int32), q2.2)) else (
      some ((1 : Int32), q2.2))) else (
    some ((1 : Int32), I))
def zH_daysFor_l27_b (x2 : Int32) (x3 : Int32)  (x4 : Int32) (x5 : Int32) (I : iq_I) : Option ((Int32 × Int32 × iq_I) ⊕ (Int32 × iq_I)) :=
  if (7 : Int32) ≤ x5 then (
    some (.inr (x4, I))) else (
    (zH_isLawful_69_16 x2 x3 x5 I).bind fun q3 =>
    if q3.1 = 0 then (
      some (.inl (x4, (x5 + (1 : Int32)), q3.2))) else (
      some (.inl ((x4 ||| ((1 : Int32) <<< (x5 &&& 31))), (x5 + (1 : Int32)), q3.2))))
def zH_daysFor_l27 (x2 : Int32) (x3 : Int32)  (n : Nat) (v : Int32 × Int32 × iq_I) : Option (Int32 × iq_I) := iq_lp (fun v => zH_daysFor_l27_b x2 x3 v.1 v.2.1 v.2.2) n v
def zH_daysFor (x2 : Int32) (x3 : Int32) (I : iq_I) : Option (Int32 × iq_I) :=
  (zU_stateOf_4_16 x2 I).bind fun q1 =>
  (zH_isFree_69_16 x2 q1 x3 I).bind fun q2 =>
  if ¬ q2 = 0 then (
    (zH_daysFor_l27 x2 x3 ir_F ((0 : Int32), (0 : Int32), I)).bind fun w4 =>
    some (w4.1, w4.2)) else (
    some ((0 : Int32), I))
def zO_days (x1 : Int32) (x2 : Int32) (I : iq_I) (X : iq_X) : Option ((Int32 ⊕ Nat) × iq_I × iq_X) :=
  (zO_needSaying x1 I X).bind fun q1 =>
  iq_sm q1.1 (fun a2 =>
    (zO_needWord x2 I q1.2).bind fun q4 =>
    iq_sm q4.1 (fun a5 =>
      (zH_daysFor x1 x2 I).bind fun q7 =>
      some (.inl q7.1, q7.2, q4.2)) (fun k6 => some (.inr k6, I, q4.2))) (fun k3 => some (.inr k3, I, q1.2))
def zL_days (x1 : Int32) (x2 : Int32) (I : iq_I) (J : iq_J) (X : iq_X) : Option (Int32 × iq_I × iq_J × iq_X) :=
  (zO_days x1 x2 I X).bind fun q1 =>
  iq_sm q1.1 (fun a2 =>
    ir_let (iq_upJ J 114 0 (Int32.toInt64 a2)) fun J4 =>
    some ((0 : Int32), q1.2.1, J4, q1.2.2)) (fun k3 => if k3 = 0 then (
    some ((1 : Int32), q1.2.1, J, q1.2.2)) else (
  if k3 = 1 then (
    none) else none))
def zM_stateOf_76_98_l6_b (x2 : Int32) (x4 : Int32) (I : iq_I) (x5 : Int32) (x6 : Int32)  : Option ((Int32 × Int32) ⊕ (Int32)) :=
  if iq_in x2 206 then (
    if (I 98 (Int32.toNatClampNeg x2)) ≤ x6 then (
      some (.inr x5)) else (
      if x5 = (-1 : Int32) then (
        some (.inr x5)) else (
        if x6 = x4 then (
          some (.inl (x5, (x6 + (1 : Int32))))) else (
          (zM_wordAt_76_98 x2 x6 I).bind fun q1 =>
          (zM_leads x5 q1 I).bind fun q2 =>
          some (.inl (q2, (x6 + (1 : Int32)))))))) else none
def zM_stateOf_76_98_l6 (x2 : Int32) (x4 : Int32) (I : iq_I) (n : Nat) (v : Int32 × Int32) : Option (Int32) := iq_lp (fun v => zM_stateOf_76_98_l6_b x2 x4 I v.1 v.2) n v
def zM_stateOf_76_98 (x2 : Int32) (x3 : Int32) (x4 : Int32) (I : iq_I) : Option (Int32) :=
  (zM_stateOf_76_98_l6 x2 x4 I ir_F (x3, (0 : Int32))).bind fun w3 =>
  some w3
def zM_stateNow_76_98 (x2 : Int32) (I : iq_I) : Option (Int32) :=
  if iq_in x2 5 then (
    (zM_stateOf_76_98 x2 (I 83 (Int32.toNatClampNeg x2)) (-1 : Int32) I).bind fun q1 =>
    some q1) else none
def zM_canFollow_l2_b (x1 : Int32) (I : iq_I) (x2 : Int32)  : Option ((Int32) ⊕ ((Unit) ⊕ (Int32))) :=
  if (I 76 2) ≤ x2 then (
    some (.inr (.inl ()))) else (
    (zM_leads x1 x2 I).bind fun q1 =>
    if q1 = (-1 : Int32) then (
      some (.inl (x2 + (1 : Int32)))) else (
      some (.inr (.inr (1 : Int32)))))
def zM_canFollow_l2 (x1 : Int32) (I : iq_I) (n : Nat) (v : Int32) : Option ((Unit) ⊕ (Int32)) := iq_lp (fun v => zM_canFollow_l2_b x1 I v) n v
def zM_canFollow (x1 : Int32) (I : iq_I) : Option (Int32) :=
  (zM_canFollow_l2 x1 I ir_F (0 : Int32)).bind fun w2 =>
  ir_sm w2 (fun a3 =>
    some (0 : Int32)) (fun b4 => some b4)
def zM_lastLetter (x1 : Int32) (I : iq_I) : Option (Int32) :=
  if iq_in x1 14 then (
    if iq_in ((((9 : Int32) * x1) + (I 78 (Int32.toNatClampNeg x1))) - (1 : Int32)) 126 then (
      some (I 77 (Int32.toNatClampNeg ((((9 : Int32) * x1) + (I 78 (Int32.toNatClampNeg x1))) - (1 : Int32))))) else none) else none
def zM_works_44 (x1 : Int32) (x2 : Int32) (I : iq_I) : Option (Int32) :=
  if x1 = 0 then (
    some (0 : Int32)) else (
    if x2 = 0 then (
      some (0 : Int32)) else (
      some (1 : Int32)))
def zM_works_58 (x1 : Int32) (x2 : Int32) (I : iq_I) : Option (Int32) :=
  if ¬ x1 = 0 then (
    some (1 : Int32)) else (
    if x2 = 0 then (
      some (0 : Int32)) else (
      some (1 : Int32)))
def zM_works_72 (x1 : Int32) (x2 : Int32) (I : iq_I) : Option (Int32) :=
  if x2 ≤ x1 then (
    some (0 : Int32)) else (
    some (1 : Int32))
def zM_works_83 (x1 : Int32) (x2 : Int32) (I : iq_I) : Option (Int32) :=
  if ¬ x1 = x2 then (
    some (0 : Int32)) else (
    some (1 : Int32))
def zM_works_106 (x1 : Int32) (x2 : Int32) (I : iq_I) : Option (Int32) :=
  if ¬ x2 = 0 then (
    if x2 = 0 then none else (
      some (x1 / x2))) else (
    some (0 : Int32))
def zM_works (x0 : Int32) (x1 : Int32) (x2 : Int32) (I : iq_I) : Option (Int32) :=
  if x0 = (4 : Int32) then (
    zM_works_44 x1 x2 I) else (
  if x0 = (5 : Int32) then (
    zM_works_58 x1 x2 I) else (
  if x0 = (6 : Int32) then (
    zM_works_72 x1 x2 I) else (
  if x0 = (7 : Int32) then (
    zM_works_83 x1 x2 I) else (
  if x0 = (8 : Int32) then (
    some (x1 + x2)) else (
  if x0 = (9 : Int32) then (
    some (x1 - x2)) else (
  if x0 = (10 : Int32) then (
    some (x1 * x2)) else (
  zM_works_106 x1 x2 I)))))))
def zM_reckons_67 (x2 : Int32) (x3 : Int32) (s1 : Int32) (s2 : Int32) (I : iq_I) : Option ((Int32 × Int32 × iq_I) ⊕ (iq_I)) :=
  if iq_in s1 950 then (
    ir_let (iq_upI I 102 (Int32.toNatClampNeg s1) s2) fun I1 =>
    some (.inl ((x2 + (1 : Int32)), (x3 + (1 : Int32)), I1))) else none
def zM_reckons_36 (x2 : Int32) (x3 : Int32) (x4 : Int32) (I : iq_I) : Option ((Int32 × Int32 × iq_I) ⊕ (iq_I)) :=
  if ¬ x4 = (1 : Int32) then (
    if iq_in x3 4000 then (
      if iq_in (I 84 (Int32.toNatClampNeg x3)) 7 then (
        zM_reckons_67 x2 x3 x2 (I 101 (Int32.toNatClampNeg (I 84 (Int32.toNatClampNeg x3)))) I) else none) else none) else (
    if iq_in x3 4000 then (
      zM_reckons_67 x2 x3 x2 (I 84 (Int32.toNatClampNeg x3)) I) else none)
def zM_reckons_106 (x2 : Int32) (x3 : Int32) (s1 : Int32) (s2 : Int32) (I : iq_I) : Option ((Int32 × Int32 × iq_I) ⊕ (iq_I)) :=
  if iq_in s1 950 then (
    ir_let (iq_upI I 102 (Int32.toNatClampNeg s1) s2) fun I4 =>
    some (.inl (x2, x3, I4))) else none
def zM_reckons_l4_b   (x2 : Int32) (x3 : Int32) (I : iq_I) : Option ((Int32 × Int32 × iq_I) ⊕ (iq_I)) :=
  if iq_in x3 4000 then (
    if (I 84 (Int32.toNatClampNeg x3)) = 0 then (
      some (.inr I)) else (
      if iq_in x3 4000 then (
        if (I 84 (Int32.toNatClampNeg x3)) = (1 : Int32) then (
          zM_reckons_36 x2 (x3 + (1 : Int32)) (I 84 (Int32.toNatClampNeg x3)) I) else (
          if ¬ (I 84 (Int32.toNatClampNeg x3)) = (2 : Int32) then (
            if ¬ (I 84 (Int32.toNatClampNeg x3)) = (3 : Int32) then (
              if iq_in ((x2 + (-1 : Int32)) - (1 : Int32)) 950 then (
                if iq_in (x2 + (-1 : Int32)) 950 then (
                  (zM_works (I 84 (Int32.toNatClampNeg x3)) (I 102 (Int32.toNatClampNeg ((x2 + (-1 : Int32)) - (1 : Int32)))) (I 102 (Int32.toNatClampNeg (x2 + (-1 : Int32)))) I).bind fun q2 =>
                  if iq_in ((x2 + (-1 : Int32)) - (1 : Int32)) 950 then (
                    ir_let (iq_upI I 102 (Int32.toNatClampNeg ((x2 + (-1 : Int32)) - (1 : Int32))) q2) fun I3 =>
                    some (.inl ((x2 + (-1 : Int32)), (x3 + (1 : Int32)), I3))) else none) else none) else none) else (
              if iq_in (x2 - (1 : Int32)) 950 then (
                if ¬ (I 102 (Int32.toNatClampNeg (x2 - (1 : Int32)))) = 0 then (
                  zM_reckons_106 x2 (x3 + (1 : Int32)) (x2 - (1 : Int32)) (0 : Int32) I) else (
                  zM_reckons_106 x2 (x3 + (1 : Int32)) (x2 - (1 : Int32)) (1 : Int32) I)) else none)) else (
            zM_reckons_36 x2 (x3 + (1 : Int32)) (I 84 (Int32.toNatClampNeg x3)) I))) else none)) else none
def zM_reckons_l4   (n : Nat) (v : Int32 × Int32 × iq_I) : Option (iq_I) := iq_lp (fun v => zM_reckons_l4_b  v.1 v.2.1 v.2.2) n v
def zM_reckons (x1 : Int32) (I : iq_I) : Option (Int32 × iq_I) :=
  (zM_reckons_l4  ir_F ((0 : Int32), x1, I)).bind fun w5 =>
  some ((w5 102 0), w5)
def zM_rule_76_98_l6_b (x1 : Int32) (x3 : Int32) (x4 : Int32) (I : iq_I) (x5 : Int32) (x6 : Int32)  : Option ((Int32 × Int32) ⊕ (Int32)) :=
  if iq_in x3 206 then (
    if (I 98 (Int32.toNatClampNeg x3)) ≤ x6 then (
      some (.inr x5)) else (
      (zM_wordAt_76_98 x3 x6 I).bind fun q1 =>
      if ¬ q1 = x4 then (
        some (.inl ((x5 + (0 : Int32)), (x6 + (1 : Int32))))) else (
        some (.inl ((x5 + (1 : Int32)), (x6 + (1 : Int32))))))) else none
def zM_rule_76_98_l6 (x1 : Int32) (x3 : Int32) (x4 : Int32) (I : iq_I) (n : Nat) (v : Int32 × Int32) : Option (Int32) := iq_lp (fun v => zM_rule_76_98_l6_b x1 x3 x4 I v.1 v.2) n v
def zM_rule_76_98_144 (x1 : Int32) (s1 : Int32) (s2 : Int32) (I : iq_I) : Option (Int32 × iq_I) :=
  if iq_in s1 7 then (
    ir_let (iq_upI I 101 (Int32.toNatClampNeg s1) s2) fun I9 =>
    (zM_reckons x1 I9).bind fun q10 =>
    some (q10.1, q10.2)) else none
def zM_rule_76_98_143 (x1 : Int32) (s1 : Int32) (I : iq_I) : Option (Int32 × iq_I) :=
  zM_rule_76_98_144 x1 s1 (0 : Int32) I
def zM_rule_76_98 (x1 : Int32) (x3 : Int32) (x4 : Int32) (I : iq_I) : Option (Int32 × iq_I) :=
  (zM_rule_76_98_l6 x1 x3 x4 I ir_F ((0 : Int32), (0 : Int32))).bind fun w2 =>
  if iq_in x4 14 then (
    ir_let (iq_upI I 101 0 (I 79 (Int32.toNatClampNeg x4))) fun I3 =>
    if iq_in x4 14 then (
      ir_let (iq_upI I3 101 1 (I3 78 (Int32.toNatClampNeg x4))) fun I4 =>
      ir_let (iq_upI I4 101 2 x4) fun I5 =>
      ir_let (iq_upI I5 101 3 (I5 98 5)) fun I6 =>
      if iq_in x3 206 then (
        ir_let (iq_upI I6 101 4 (I6 98 (Int32.toNatClampNeg x3))) fun I7 =>
        ir_let (iq_upI I7 101 5 w2) fun I8 =>
        if iq_in x3 206 then (
          if (I8 98 (Int32.toNatClampNeg x3)) ≤ 0 then (
            zM_rule_76_98_143 x1 (6 : Int32) I8) else (
            if iq_in x3 206 then (
              (zM_wordAt_76_98 x3 ((I8 98 (Int32.toNatClampNeg x3)) - (1 : Int32)) I8).bind fun q11 =>
              (zM_lastLetter q11 I8).bind fun q12 =>
              (zM_lastLetter x4 I8).bind fun q13 =>
              if ¬ q12 = q13 then (
                zM_rule_76_98_143 x1 (6 : Int32) I8) else (
                zM_rule_76_98_144 x1 (6 : Int32) (1 : Int32) I8)) else none)) else none) else none) else none) else none
def zM_mayCome_76_98 (x2 : Int32) (x3 : Int32) (x4 : Int32) (I : iq_I) : Option (Int32 × iq_I) :=
  if x3 = (-1 : Int32) then (
    some ((0 : Int32), I)) else (
    if iq_in x2 206 then (
      if ¬ (I 98 (Int32.toNatClampNeg x2)) = (40 : Int32) then (
        (zM_leads x3 x4 I).bind fun q1 =>
        if q1 = (-1 : Int32) then (
          some ((0 : Int32), I)) else (
          (zM_canFollow q1 I).bind fun q2 =>
          if q2 = 0 then (
            some ((0 : Int32), I)) else (
            if (I 76 6) = (-1 : Int32) then (
              some ((1 : Int32), I)) else (
              (zM_rule_76_98 (I 76 6) x2 x4 I).bind fun q3 =>
              if q3.1 = 0 then (
                some ((0 : Int32), q3.2)) else (
                some ((1 : Int32), q3.2)))))) else (
        some ((0 : Int32), I))) else none)
def zM_days_l36_b (x1 : Int32) (x2 : Int32) (x3 : Int32)  (x4 : Int32) (x5 : Int32) (I : iq_I) : Option ((Int32 × Int32 × iq_I) ⊕ (Int32 × iq_I)) :=
  if (7 : Int32) ≤ x5 then (
    some (.inr (x4, I))) else (
    ir_let (iq_upI I 98 5 x5) fun I4 =>
    (zM_stateNow_76_98 x1 I4).bind fun q5 =>
    (zM_mayCome_76_98 x1 q5 x2 I4).bind fun q6 =>
    if q6.1 = 0 then (
      some (.inl ((x4 ||| (0 : Int32)), (x5 + (1 : Int32)), q6.2))) else (
      some (.inl ((x4 ||| ((1 : Int32) <<< (x5 &&& 31))), (x5 + (1 : Int32)), q6.2))))
def zM_days_l36 (x1 : Int32) (x2 : Int32) (x3 : Int32)  (n : Nat) (v : Int32 × Int32 × iq_I) : Option (Int32 × iq_I) := iq_lp (fun v => zM_days_l36_b x1 x2 x3 v.1 v.2.1 v.2.2) n v
def zM_days (x1 : Int32) (x2 : Int32) (I : iq_I) : Option (Int32 × iq_I) :=
  ir_let (iq_upI I 76 0 (0 : Int32)) fun I1 =>
  (zM_isSaying x1 I1).bind fun q2 =>
  if q2.1 = 0 then (
    some ((0 : Int32), q2.2)) else (
    (zM_isWord x2 q2.2).bind fun q3 =>
    if ¬ q3.1 = 0 then (
      (zM_days_l36 x1 x2 (q3.2 98 5) ir_F ((0 : Int32), (0 : Int32), q3.2)).bind fun w7 =>
      ir_let (iq_upI w7.2 98 5 (q3.2 98 5)) fun I8 =>
      some (w7.1, I8)) else (
      some ((0 : Int32), q3.2)))
def zO_needState_15  (I : iq_I) (X : iq_X) : Option ((Unit ⊕ Nat) × iq_X) :=
  some (.inr 0, (ir_xx X))
def zO_needState (x1 : Int32) (I : iq_I) (X : iq_X) : Option ((Unit ⊕ Nat) × iq_X) :=
  if x1 < 0 then (
    zO_needState_15 I X) else (
    if x1 < (I 4 0) then (
      some (.inl (), X)) else (
      zO_needState_15 I X))
