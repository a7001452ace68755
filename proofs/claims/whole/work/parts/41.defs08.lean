/-! ===== the methods as pure functions (printed by wip/whole/emitall.py, split.py) ===== -/
def zM_see (x1 : Int32) (x2 : Int32) (I : iq_I) : Option (Int32 × iq_I) :=
  ir_let (iq_upI I 76 0 (0 : Int32)) fun I1 =>
  (zM_isSaying x1 I1).bind fun q2 =>
  if q2.1 = 0 then (
    some ((0 : Int32), q2.2)) else (
    (zM_isWord x2 q2.2).bind fun q3 =>
    if ¬ q3.1 = 0 then (
      if ¬ (q3.2 76 63) = (3 : Int32) then (
        if iq_in ((2 : Int32) * (q3.2 76 63)) 6 then (
          ir_let (iq_upI q3.2 108 (Int32.toNatClampNeg ((2 : Int32) * (q3.2 76 63))) x1) fun I4 =>
          if iq_in (((2 : Int32) * (I4 76 63)) + (1 : Int32)) 6 then (
            ir_let (iq_upI I4 108 (Int32.toNatClampNeg (((2 : Int32) * (I4 76 63)) + (1 : Int32))) x2) fun I5 =>
            ir_let (iq_upI I5 76 63 ((I5 76 63) + (1 : Int32))) fun I6 =>
            some ((I6 76 63), I6)) else none) else none) else (
        (zM_refuses (2 : Int32) q3.2).bind fun q7 =>
        some (q7.1, q7.2))) else (
      some ((0 : Int32), q3.2)))
def zH_greatestDivisor_l7_b (x0 : Int32) (I : iq_I) (x2 : Int32) (x3 : Int32) (x4 : Int32)  : Option ((Int32 × Int32 × Int32) ⊕ (Int32)) :=
  if x0 < x4 then (
    some (.inr x2)) else (
    if x3 ≤ 0 then (
      some (.inr x2)) else (
      if x3 = 0 then none else (
        some (.inl (x3, (x2 - x2 / x3 * x3), (x4 + (1 : Int32)))))))
def zH_greatestDivisor_l7 (x0 : Int32) (I : iq_I) (n : Nat) (v : Int32 × Int32 × Int32) : Option (Int32) := iq_lp (fun v => zH_greatestDivisor_l7_b x0 I v.1 v.2.1 v.2.2) n v
def zH_greatestDivisor_33 (x2 : Int32) (I : iq_I) : Option (Int32) :=
  some (ir_max (1 : Int32) x2)
def zH_greatestDivisor (x0 : Int32) (x1 : Int32) (I : iq_I) : Option (Int32) :=
  (zH_greatestDivisor_l7 x0 I ir_F (x0, x1, (0 : Int32))).bind fun w1 =>
  zH_greatestDivisor_33 w1 I
def zH_lowestTerm_27 (x5 : Int32) (I : iq_I) : Option (Int32 × iq_I) :=
  if x5 = 0 then (
    some ((1 : Int32), I)) else (
    some ((0 : Int32), I))
def zH_lowestTerm_59 (x8 : Int32) (s0 : Int32) (I : iq_I) : Option (Int32 × iq_I) :=
  if x8 = 0 then none else (
    some ((s0 / x8), I))
def zH_lowestTerm (x2 : Int32) (x3 : Int32) (x4 : Int32) (x5 : Int32) (I : iq_I) : Option (Int32 × iq_I) :=
  (zH_weigh_69_16 x2 x3 I).bind fun q1 =>
  (zH_weightOf x4 q1.2).bind fun q2 =>
  if q2 = 0 then (
    zH_lowestTerm_27 x5 q1.2) else (
    if ¬ q1.1 = 0 then (
      (zH_greatestDivisor q1.1 q2 q1.2).bind fun q3 =>
      if x5 = 0 then (
        zH_lowestTerm_59 q3 q1.1 q1.2) else (
        zH_lowestTerm_59 q3 q2 q1.2)) else (
      zH_lowestTerm_27 x5 q1.2))
def zO_odds_18  (I : iq_I) (X : iq_X) : Option ((Int32 ⊕ Nat) × iq_I × iq_X) :=
  some (.inr 0, I, (ir_xx X))
def zO_odds_66 (s2 : Int32) (s3 : Int32) (s4 : Int32) (s5 : Int32) (I : iq_I) (X : iq_X) : Option ((Int32 ⊕ Nat) × iq_I × iq_X) :=
  (zH_lowestTerm s2 s3 s4 s5 I).bind fun q10 =>
  some (.inl q10.1, q10.2, X)
def zO_odds (x1 : Int32) (x2 : Int32) (x3 : Int32) (x4 : Int32) (I : iq_I) (X : iq_X) : Option ((Int32 ⊕ Nat) × iq_I × iq_X) :=
  if x1 < 0 then (
    zO_odds_18 I X) else (
    if x1 < (I 8 0) then (
      (zO_needSaying x2 I X).bind fun q1 =>
      iq_sm q1.1 (fun a2 =>
        (zO_needWord x3 I q1.2).bind fun q4 =>
        iq_sm q4.1 (fun a5 =>
          (zO_needOneOfTwo x4 I q4.2).bind fun q7 =>
          iq_sm q7.1 (fun a8 =>
            if ¬ x4 = 0 then (
              zO_odds_66 x1 x2 x3 (0 : Int32) I q7.2) else (
              zO_odds_66 x1 x2 x3 (1 : Int32) I q7.2)) (fun k9 => some (.inr k9, I, q7.2))) (fun k6 => some (.inr k6, I, q4.2))) (fun k3 => some (.inr k3, I, q1.2))) else (
      zO_odds_18 I X))
def zL_odds (x1 : Int32) (x2 : Int32) (x3 : Int32) (x4 : Int32) (I : iq_I) (J : iq_J) (X : iq_X) : Option (Int32 × iq_I × iq_J × iq_X) :=
  (zO_odds x1 x2 x3 x4 I X).bind fun q1 =>
  iq_sm q1.1 (fun a2 =>
    ir_let (iq_upJ J 114 0 (Int32.toInt64 a2)) fun J4 =>
    some ((0 : Int32), q1.2.1, J4, q1.2.2)) (fun k3 => if k3 = 0 then (
    some ((1 : Int32), q1.2.1, J, q1.2.2)) else (
  if k3 = 1 then (
    none) else none))
def zM_odds_23 (x1 : Int32) (x2 : Int32) (x3 : Int32) (x4 : Int32) (s1 : Int32) (I : iq_I) : Option (Int32 × iq_I) :=
  (zM_right s1 (1 : Int32) I).bind fun q2 =>
  if q2.1 = 0 then (
    some ((0 : Int32), q2.2)) else (
    (zM_isSaying x2 q2.2).bind fun q3 =>
    if q3.1 = 0 then (
      some ((0 : Int32), q3.2)) else (
      (zM_isWord x3 q3.2).bind fun q4 =>
      if q4.1 = 0 then (
        some ((0 : Int32), q4.2)) else (
        (zM_isWhat x4 (1 : Int32) q4.2).bind fun q5 =>
        if q5.1 = 0 then (
          some ((0 : Int32), q5.2)) else (
          (zM_oddsOf x1 x2 x3 x4 q5.2).bind fun q6 =>
          some (q6.1, q6.2)))))
def zM_odds_22 (x1 : Int32) (x2 : Int32) (x3 : Int32) (x4 : Int32) (I : iq_I) : Option (Int32 × iq_I) :=
  zM_odds_23 x1 x2 x3 x4 (0 : Int32) I
def zM_odds (x1 : Int32) (x2 : Int32) (x3 : Int32) (x4 : Int32) (I : iq_I) : Option (Int32 × iq_I) :=
  ir_let (iq_upI I 76 0 (0 : Int32)) fun I1 =>
  if x1 < 0 then (
    zM_odds_22 x1 x2 x3 x4 I1) else (
    if (I1 76 4) ≤ x1 then (
      zM_odds_22 x1 x2 x3 x4 I1) else (
      zM_odds_23 x1 x2 x3 x4 (1 : Int32) I1))
def zS_J6_bitCount_0f7a4 (x0 : Int32) (I : iq_I) : Option (Int32) :=
  some ((((((((x0 - ((ir_ushr x0 (1 : Int32)) &&& (1431655765 : Int32))) &&& (858993459 : Int32)) + ((ir_ushr (x0 - ((ir_ushr x0 (1 : Int32)) &&& (1431655765 : Int32))) (2 : Int32)) &&& (858993459 : Int32))) + (ir_ushr (((x0 - ((ir_ushr x0 (1 : Int32)) &&& (1431655765 : Int32))) &&& (858993459 : Int32)) + ((ir_ushr (x0 - ((ir_ushr x0 (1 : Int32)) &&& (1431655765 : Int32))) (2 : Int32)) &&& (858993459 : Int32))) (4 : Int32))) &&& (252645135 : Int32)) + (ir_ushr (((((x0 - ((ir_ushr x0 (1 : Int32)) &&& (1431655765 : Int32))) &&& (858993459 : Int32)) + ((ir_ushr (x0 - ((ir_ushr x0 (1 : Int32)) &&& (1431655765 : Int32))) (2 : Int32)) &&& (858993459 : Int32))) + (ir_ushr (((x0 - ((ir_ushr x0 (1 : Int32)) &&& (1431655765 : Int32))) &&& (858993459 : Int32)) + ((ir_ushr (x0 - ((ir_ushr x0 (1 : Int32)) &&& (1431655765 : Int32))) (2 : Int32)) &&& (858993459 : Int32))) (4 : Int32))) &&& (252645135 : Int32)) (8 : Int32))) + (ir_ushr ((((((x0 - ((ir_ushr x0 (1 : Int32)) &&& (1431655765 : Int32))) &&& (858993459 : Int32)) + ((ir_ushr (x0 - ((ir_ushr x0 (1 : Int32)) &&& (1431655765 : Int32))) (2 : Int32)) &&& (858993459 : Int32))) + (ir_ushr (((x0 - ((ir_ushr x0 (1 : Int32)) &&& (1431655765 : Int32))) &&& (858993459 : Int32)) + ((ir_ushr (x0 - ((ir_ushr x0 (1 : Int32)) &&& (1431655765 : Int32))) (2 : Int32)) &&& (858993459 : Int32))) (4 : Int32))) &&& (252645135 : Int32)) + (ir_ushr (((((x0 - ((ir_ushr x0 (1 : Int32)) &&& (1431655765 : Int32))) &&& (858993459 : Int32)) + ((ir_ushr (x0 - ((ir_ushr x0 (1 : Int32)) &&& (1431655765 : Int32))) (2 : Int32)) &&& (858993459 : Int32))) + (ir_ushr (((x0 - ((ir_ushr x0 (1 : Int32)) &&& (1431655765 : Int32))) &&& (858993459 : Int32)) + ((ir_ushr (x0 - ((ir_ushr x0 (1 : Int32)) &&& (1431655765 : Int32))) (2 : Int32)) &&& (858993459 : Int32))) (4 : Int32))) &&& (252645135 : Int32)) (8 : Int32))) (16 : Int32))) &&& (63 : Int32))
def zP_allStates  (I : iq_I) : Option (Int32) :=
  some (((1 : Int32) <<< ((I 4 0) &&& 31)) - (1 : Int32))
def zP_leadingInto_l5_b (x1 : Int32) (x2 : Int32) (I : iq_I) (x3 : Int32) (x4 : Int32)  : Option ((Int32 × Int32) ⊕ (Int32)) :=
  if (I 4 0) ≤ x4 then (
    some (.inr x3)) else (
    if ((x1 >>> (x4 &&& 31)) &&& (1 : Int32)) = 0 then (
      some (.inl (x3, (x4 + (1 : Int32))))) else (
      if iq_in x4 10 then (
        if ((I 64 (Int32.toNatClampNeg x4)) &&& x2) = 0 then (
          some (.inl (x3, (x4 + (1 : Int32))))) else (
          some (.inl ((x3 ||| ((1 : Int32) <<< (x4 &&& 31))), (x4 + (1 : Int32)))))) else none))
def zP_leadingInto_l5 (x1 : Int32) (x2 : Int32) (I : iq_I) (n : Nat) (v : Int32 × Int32) : Option (Int32) := iq_lp (fun v => zP_leadingInto_l5_b x1 x2 I v.1 v.2) n v
def zP_leadingInto (x1 : Int32) (x2 : Int32) (I : iq_I) : Option (Int32) :=
  (zP_leadingInto_l5 x1 x2 I ir_F ((0 : Int32), (0 : Int32))).bind fun w1 =>
  some w1
def zP_endless_l12_b  (I : iq_I) (x2 : Int32) (x3 : Int32)  : Option ((Int32 × Int32) ⊕ ((Int32) ⊕ (Int32 × iq_I))) :=
  if (I 4 0) ≤ x3 then (
    some (.inr (.inl x2))) else (
    (zP_leadingInto x2 x2 I).bind fun q3 =>
    if ¬ q3 = x2 then (
      some (.inl (q3, (x3 + (1 : Int32))))) else (
      some (.inr (.inr (x2, I)))))
def zP_endless_l12  (I : iq_I) (n : Nat) (v : Int32 × Int32) : Option ((Int32) ⊕ (Int32 × iq_I)) := iq_lp (fun v => zP_endless_l12_b I v.1 v.2) n v
def zP_endless (x1 : Int32) (I : iq_I) : Option (Int32 × iq_I) :=
  (zP_lookBehind x1 I).bind fun q1 =>
  (zP_allStates q1).bind fun q2 =>
  (zP_endless_l12 q1 ir_F (q2, (0 : Int32))).bind fun w4 =>
  ir_sm w4 (fun a5 =>
    some (a5, q1)) (fun b6 => some b6)
def zP_closingKinds_l4_b  (I : iq_I) (x2 : Int32) (x3 : Int32)  : Option ((Int32 × Int32) ⊕ (Int32)) :=
  if (I 16 0) ≤ x3 then (
    some (.inr x2)) else (
    (zU_stateOf_4_16 x3 I).bind fun q1 =>
    if q1 = (-1 : Int32) then (
      some (.inl (x2, (x3 + (1 : Int32))))) else (
      some (.inl ((x2 ||| ((1 : Int32) <<< (q1 &&& 31))), (x3 + (1 : Int32))))))
def zP_closingKinds_l4  (I : iq_I) (n : Nat) (v : Int32 × Int32) : Option (Int32) := iq_lp (fun v => zP_closingKinds_l4_b I v.1 v.2) n v
def zP_closingKinds_l53_b (x2 : Int32) (x3 : Int32)  (x4 : Int32) (I : iq_I) : Option ((Int32 × iq_I) ⊕ ((iq_I) ⊕ (Int32 × iq_I))) :=
  if (256 : Int32) ≤ x4 then (
    some (.inr (.inl I))) else (
    (zS_J6_bitCount_0f7a4 x4 I).bind fun q3 =>
    if ¬ q3 = x3 then (
      some (.inl ((x4 + (1 : Int32)), I))) else (
      if ¬ (x4 &&& ((I 4 4) ^^^ (-1 : Int32))) = 0 then (
        some (.inl ((x4 + (1 : Int32)), I))) else (
        (zP_endless x4 I).bind fun q4 =>
        if ¬ (q4.1 &&& x2) = 0 then (
          some (.inl ((x4 + (1 : Int32)), q4.2))) else (
          some (.inr (.inr (x4, q4.2)))))))
def zP_closingKinds_l53 (x2 : Int32) (x3 : Int32)  (n : Nat) (v : Int32 × iq_I) : Option ((iq_I) ⊕ (Int32 × iq_I)) := iq_lp (fun v => zP_closingKinds_l53_b x2 x3 v.1 v.2) n v
def zP_closingKinds_l44_b (x2 : Int32)  (x3 : Int32) (I : iq_I) : Option ((Int32 × iq_I) ⊕ ((iq_I) ⊕ (Int32 × iq_I))) :=
  if (8 : Int32) < x3 then (
    some (.inr (.inl I))) else (
    (zP_closingKinds_l53 x2 x3 ir_F ((0 : Int32), I)).bind fun w5 =>
    ir_sm w5 (fun a6 =>
      some (.inl ((x3 + (1 : Int32)), a6))) (fun b7 => some (.inr (.inr b7))))
def zP_closingKinds_l44 (x2 : Int32)  (n : Nat) (v : Int32 × iq_I) : Option ((iq_I) ⊕ (Int32 × iq_I)) := iq_lp (fun v => zP_closingKinds_l44_b x2 v.1 v.2) n v
def zP_closingKinds  (I : iq_I) : Option (Int32 × iq_I) :=
  (zP_closingKinds_l4 I ir_F ((0 : Int32), (0 : Int32))).bind fun w2 =>
  (zP_closingKinds_l44 w2 ir_F ((0 : Int32), I)).bind fun w8 =>
  ir_sm w8 (fun a9 =>
    some ((0 : Int32), a9)) (fun b10 => some b10)
def zO_closed  (I : iq_I) : Option (Int32 × iq_I) :=
  (zP_closingKinds I).bind fun q1 =>
  some (q1.1, q1.2)
def zM_bits_l4_b (x0 : Int32) (I : iq_I) (x1 : Int32) (x2 : Int32)  : Option ((Int32 × Int32) ⊕ (Int32)) :=
  if (14 : Int32) ≤ x2 then (
    some (.inr x1)) else (
    some (.inl ((x1 + ((x0 >>> (x2 &&& 31)) &&& (1 : Int32))), (x2 + (1 : Int32)))))
def zM_bits_l4 (x0 : Int32) (I : iq_I) (n : Nat) (v : Int32 × Int32) : Option (Int32) := iq_lp (fun v => zM_bits_l4_b x0 I v.1 v.2) n v
def zM_bits (x0 : Int32) (I : iq_I) : Option (Int32) :=
  (zM_bits_l4 x0 I ir_F ((0 : Int32), (0 : Int32))).bind fun w1 =>
  some w1
def zM_follows_l6_b  (I : iq_I) (x2 : Int32) (x3 : Int32)  : Option ((Int32 × Int32) ⊕ ((Unit) ⊕ (Int32))) :=
  if (I 76 1) < x3 then (
    some (.inr (.inl ()))) else (
    (zM_onward x2 I).bind fun q1 =>
    if ¬ q1 = 0 then (
      some (.inl (q1, (x3 + (1 : Int32))))) else (
      some (.inr (.inr x3))))
def zM_follows_l6  (I : iq_I) (n : Nat) (v : Int32 × Int32) : Option ((Unit) ⊕ (Int32)) := iq_lp (fun v => zM_follows_l6_b I v.1 v.2) n v
def zM_follows (x1 : Int32) (I : iq_I) : Option (Int32) :=
  (zM_follows_l6 I ir_F (((1 : Int32) <<< (x1 &&& 31)), (0 : Int32))).bind fun w2 =>
  ir_sm w2 (fun a3 =>
    some (-1 : Int32)) (fun b4 => some b4)
def zM_closed_l45_b (x1 : Int32) (x2 : Int32) (I : iq_I) (x3 : Int32) (x4 : Int32)  : Option ((Int32 × Int32) ⊕ (Int32)) :=
  if (I 76 5) ≤ x4 then (
    some (.inr x3)) else (
    if x3 = 0 then (
      some (.inl ((0 : Int32), (x4 + (1 : Int32))))) else (
      (zM_stateNow_76_98 x4 I).bind fun q3 =>
      if q3 = (-1 : Int32) then (
        some (.inl ((1 : Int32), (x4 + (1 : Int32))))) else (
        (zM_stateNow_76_98 x4 I).bind fun q4 =>
        (zM_follows q4 I).bind fun q5 =>
        if q5 = (-1 : Int32) then (
          some (.inl ((0 : Int32), (x4 + (1 : Int32))))) else (
          some (.inl ((1 : Int32), (x4 + (1 : Int32))))))))
def zM_closed_l45 (x1 : Int32) (x2 : Int32) (I : iq_I) (n : Nat) (v : Int32 × Int32) : Option (Int32) := iq_lp (fun v => zM_closed_l45_b x1 x2 I v.1 v.2) n v
def zM_closed_35 (x1 : Int32) (x2 : Int32) (I : iq_I) : Option ((Int32 × Int32 × iq_I) ⊕ (Int32 × iq_I)) :=
  ir_let (iq_upI I 76 57 x2) fun I2 =>
  (zM_closed_l45 x1 x2 I2 ir_F ((1 : Int32), (0 : Int32))).bind fun w6 =>
  if w6 = 0 then (
    some (.inl (x1, (x2 + (1 : Int32)), I2))) else (
    some (.inl (x2, (x2 + (1 : Int32)), I2)))
def zM_closed_l9_b   (x1 : Int32) (x2 : Int32) (I : iq_I) : Option ((Int32 × Int32 × iq_I) ⊕ (Int32 × iq_I)) :=
  if (256 : Int32) ≤ x2 then (
    some (.inr (x1, I))) else (
    if x1 = (-1 : Int32) then (
      zM_closed_35 x1 x2 I) else (
      (zM_bits x2 I).bind fun q7 =>
      (zM_bits x1 I).bind fun q8 =>
      if q7 < q8 then (
        zM_closed_35 x1 x2 I) else (
        some (.inl (x1, (x2 + (1 : Int32)), I)))))
def zM_closed_l9   (n : Nat) (v : Int32 × Int32 × iq_I) : Option (Int32 × iq_I) := iq_lp (fun v => zM_closed_l9_b  v.1 v.2.1 v.2.2) n v
def zM_closed  (I : iq_I) : Option (Int32 × iq_I) :=
  ir_let (iq_upI I 76 0 (0 : Int32)) fun I1 =>
  (zM_closed_l9  ir_F ((-1 : Int32), (0 : Int32), I1)).bind fun w9 =>
  ir_let (iq_upI w9.2 76 57 (0 : Int32)) fun I10 =>
  some (w9.1, I10)
def zO_needNoneOrMore (x1 : Int32) (I : iq_I) (X : iq_X) : Option ((Unit ⊕ Nat) × iq_X) :=
  if (-1 : Int32) ≤ x1 then (
    some (.inl (), X)) else (
    some (.inr 0, (ir_xx X)))
def zP_leastCost (x1 : Int32) (x2 : Int32) (I : iq_I) : Option (Int32) :=
  if x1 < 0 then (
    some (1000000 : Int32)) else (
    if (I 4 0) ≤ x1 then (
      some (1000000 : Int32)) else (
      if x2 < 0 then (
        some (1000000 : Int32)) else (
        if x2 ≤ (40 : Int32) then (
          if iq_in ((x2 * (10 : Int32)) + x1) 410 then (
            some (I 66 (Int32.toNatClampNeg ((x2 * (10 : Int32)) + x1)))) else none) else (
          some (1000000 : Int32)))))
def zP_cheapestBehind_l6_b (x1 : Int32) (x2 : Int32) (I : iq_I) (x3 : Int32) (x4 : Int32)  : Option ((Int32 × Int32) ⊕ (Int32)) :=
  if (8 : Int32) ≤ x4 then (
    some (.inr x3)) else (
    if (((I 4 4) >>> (x4 &&& 31)) &&& (1 : Int32)) = 0 then (
      some (.inl (x3, (x4 + (1 : Int32))))) else (
      (zU_leadsBy_4 x1 x4 I).bind fun q1 =>
      (zU_priceOf x4 I).bind fun q2 =>
      (zP_leastCost q1 (x2 - (1 : Int32)) I).bind fun q3 =>
      some (.inl ((ir_min x3 (q2 + q3)), (x4 + (1 : Int32))))))
def zP_cheapestBehind_l6 (x1 : Int32) (x2 : Int32) (I : iq_I) (n : Nat) (v : Int32 × Int32) : Option (Int32) := iq_lp (fun v => zP_cheapestBehind_l6_b x1 x2 I v.1 v.2) n v
def zP_cheapestBehind (x1 : Int32) (x2 : Int32) (I : iq_I) : Option (Int32) :=
  (zP_cheapestBehind_l6 x1 x2 I ir_F ((1000000 : Int32), (0 : Int32))).bind fun w4 =>
  some w4
def zP_priceRows_l2_b   (x1 : Int32) (I : iq_I) : Option ((Int32 × iq_I) ⊕ (iq_I)) :=
  if (10 : Int32) ≤ x1 then (
    some (.inr I)) else (
    if iq_in x1 410 then (
      ir_let (iq_upI I 66 (Int32.toNatClampNeg x1) (0 : Int32)) fun I1 =>
      some (.inl ((x1 + (1 : Int32)), I1))) else none)
def zP_priceRows_l2   (n : Nat) (v : Int32 × iq_I) : Option (iq_I) := iq_lp (fun v => zP_priceRows_l2_b  v.1 v.2) n v
def zP_priceRows_l31_b (x1 : Int32)  (x2 : Int32) (I : iq_I) : Option ((Int32 × iq_I) ⊕ (iq_I)) :=
  if (I 4 0) ≤ x2 then (
    some (.inr I)) else (
    (zP_cheapestBehind x2 x1 I).bind fun q3 =>
    if iq_in ((x1 * (10 : Int32)) + x2) 410 then (
      ir_let (iq_upI I 66 (Int32.toNatClampNeg ((x1 * (10 : Int32)) + x2)) q3) fun I4 =>
      some (.inl ((x2 + (1 : Int32)), I4))) else none)
def zP_priceRows_l31 (x1 : Int32)  (n : Nat) (v : Int32 × iq_I) : Option (iq_I) := iq_lp (fun v => zP_priceRows_l31_b x1 v.1 v.2) n v
def zP_priceRows_l23_b   (x1 : Int32) (I : iq_I) : Option ((Int32 × iq_I) ⊕ (iq_I)) :=
  if (40 : Int32) < x1 then (
    some (.inr I)) else (
    (zP_priceRows_l31 x1 ir_F ((0 : Int32), I)).bind fun w5 =>
    some (.inl ((x1 + (1 : Int32)), w5)))
def zP_priceRows_l23   (n : Nat) (v : Int32 × iq_I) : Option (iq_I) := iq_lp (fun v => zP_priceRows_l23_b  v.1 v.2) n v
def zP_priceRows  (I : iq_I) : Option (iq_I) :=
  (zP_priceRows_l2  ir_F ((0 : Int32), I)).bind fun w2 =>
  (zP_priceRows_l23  ir_F ((1 : Int32), w2)).bind fun w6 =>
  some w6
def zP_longestFor_l3_b (x1 : Int32) (x2 : Int32) (I : iq_I) (x3 : Int32)  : Option ((Int32) ⊕ ((Unit) ⊕ (Int32))) :=
  if x3 ≤ 0 then (
    some (.inr (.inl ()))) else (
    (zP_leastCost x1 x3 I).bind fun q1 =>
    if x2 < q1 then (
      some (.inl (x3 + (-1 : Int32)))) else (
      some (.inr (.inr x3))))
def zP_longestFor_l3 (x1 : Int32) (x2 : Int32) (I : iq_I) (n : Nat) (v : Int32) : Option ((Unit) ⊕ (Int32)) := iq_lp (fun v => zP_longestFor_l3_b x1 x2 I v) n v
def zP_longestFor (x1 : Int32) (x2 : Int32) (I : iq_I) : Option (Int32) :=
  (zP_longestFor_l3 x1 x2 I ir_F (40 : Int32)).bind fun w2 =>
  ir_sm w2 (fun a3 =>
    some (0 : Int32)) (fun b4 => some b4)
def zP_mostFor (x1 : Int32) (x2 : Int32) (I : iq_I) : Option (Int32 × iq_I) :=
  (zP_priceRows I).bind fun q1 =>
  (zP_longestFor x1 x2 q1).bind fun q2 =>
  some (q2, q1)
def zP_firstFor_l3_b (x1 : Int32) (x2 : Int32) (x3 : Int32) (I : iq_I) (x4 : Int32)  : Option ((Int32) ⊕ ((Unit) ⊕ (Int32))) :=
  if (I 4 2) ≤ x4 then (
    some (.inr (.inl ()))) else (
    (zU_kindOf x4 I).bind fun q1 =>
    (zU_priceOf q1 I).bind fun q2 =>
    (zU_leadsTo_4 x1 x4 I).bind fun q3 =>
    (zP_leastCost q3 (x3 - (1 : Int32)) I).bind fun q4 =>
    if x2 < (q2 + q4) then (
      some (.inl (x4 + (1 : Int32)))) else (
      some (.inr (.inr x4))))
def zP_firstFor_l3 (x1 : Int32) (x2 : Int32) (x3 : Int32) (I : iq_I) (n : Nat) (v : Int32) : Option ((Unit) ⊕ (Int32)) := iq_lp (fun v => zP_firstFor_l3_b x1 x2 x3 I v) n v
def zP_firstFor (x1 : Int32) (x2 : Int32) (x3 : Int32) (I : iq_I) : Option (Int32) :=
  (zP_firstFor_l3 x1 x2 x3 I ir_F (0 : Int32)).bind fun w5 =>
  ir_sm w5 (fun a6 =>
    some (-1 : Int32)) (fun b7 => some b7)
