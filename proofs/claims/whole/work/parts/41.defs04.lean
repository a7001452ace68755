/-! ===== the methods as pure functions (printed by wip/whole/emitall.py, split.py) ===== -/
def zP_lookBehind_l31_b (x2 : Int32) (x3 : Int32) (I : iq_I) (x4 : Int32) (x5 : Int32)  : Option ((Int32 × Int32) ⊕ (Int32)) :=
  if (8 : Int32) ≤ x5 then (
    some (.inr x4)) else (
    (zU_leadsBy_4 x3 x5 I).bind fun q1 =>
    if ((x2 >>> (x5 &&& 31)) &&& (1 : Int32)) = 0 then (
      some (.inl (x4, (x5 + (1 : Int32))))) else (
      if q1 = (-1 : Int32) then (
        some (.inl (x4, (x5 + (1 : Int32))))) else (
        some (.inl ((x4 ||| ((1 : Int32) <<< (q1 &&& 31))), (x5 + (1 : Int32)))))))
def zP_lookBehind_l31 (x2 : Int32) (x3 : Int32) (I : iq_I) (n : Nat) (v : Int32 × Int32) : Option (Int32) := iq_lp (fun v => zP_lookBehind_l31_b x2 x3 I v.1 v.2) n v
def zP_lookBehind_l14_b (x2 : Int32)  (x3 : Int32) (I : iq_I) : Option ((Int32 × iq_I) ⊕ (iq_I)) :=
  if (I 4 0) ≤ x3 then (
    some (.inr I)) else (
    (zP_lookBehind_l31 x2 x3 I ir_F ((0 : Int32), (0 : Int32))).bind fun w2 =>
    if iq_in x3 10 then (
      ir_let (iq_upI I 64 (Int32.toNatClampNeg x3) w2) fun I3 =>
      some (.inl ((x3 + (1 : Int32)), I3))) else none)
def zP_lookBehind_l14 (x2 : Int32)  (n : Nat) (v : Int32 × iq_I) : Option (iq_I) := iq_lp (fun v => zP_lookBehind_l14_b x2 v.1 v.2) n v
def zP_lookBehind (x1 : Int32) (I : iq_I) : Option (iq_I) :=
  (zP_lookBehind_l14 ((I 4 4) &&& (x1 ^^^ (-1 : Int32))) ir_F ((0 : Int32), I)).bind fun w4 =>
  some w4
def zP_allBehind_l4_b (x1 : Int32) (I : iq_I) (x2 : Int32) (x3 : Int32)  : Option ((Int32 × Int32) ⊕ (Int32)) :=
  if (I 4 0) ≤ x3 then (
    some (.inr x2)) else (
    if ((x1 >>> (x3 &&& 31)) &&& (1 : Int32)) = 0 then (
      some (.inl (x2, (x3 + (1 : Int32))))) else (
      if iq_in x3 10 then (
        some (.inl ((x2 ||| (I 64 (Int32.toNatClampNeg x3))), (x3 + (1 : Int32))))) else none))
def zP_allBehind_l4 (x1 : Int32) (I : iq_I) (n : Nat) (v : Int32 × Int32) : Option (Int32) := iq_lp (fun v => zP_allBehind_l4_b x1 I v.1 v.2) n v
def zP_allBehind (x1 : Int32) (I : iq_I) : Option (Int32) :=
  (zP_allBehind_l4 x1 I ir_F ((0 : Int32), (0 : Int32))).bind fun w1 =>
  some w1
def zP_fewestWords_l12_b (x2 : Int32) (I : iq_I) (x3 : Int32) (x4 : Int32)  : Option ((Int32 × Int32) ⊕ ((Unit) ⊕ (Int32 × iq_I))) :=
  if (I 4 0) ≤ x4 then (
    some (.inr (.inl ()))) else (
    if ((x3 >>> (x2 &&& 31)) &&& (1 : Int32)) = 0 then (
      (zP_allBehind x3 I).bind fun q2 =>
      some (.inl (q2, (x4 + (1 : Int32))))) else (
      some (.inr (.inr (x4, I)))))
def zP_fewestWords_l12 (x2 : Int32) (I : iq_I) (n : Nat) (v : Int32 × Int32) : Option ((Unit) ⊕ (Int32 × iq_I)) := iq_lp (fun v => zP_fewestWords_l12_b x2 I v.1 v.2) n v
def zP_fewestWords (x1 : Int32) (x2 : Int32) (I : iq_I) : Option (Int32 × iq_I) :=
  (zP_lookBehind (0 : Int32) I).bind fun q1 =>
  (zP_fewestWords_l12 x2 q1 ir_F (((1 : Int32) <<< (x1 &&& 31)), (0 : Int32))).bind fun w3 =>
  ir_sm w3 (fun a4 =>
    some ((-1 : Int32), q1)) (fun b5 => some b5)
def zO_far (x1 : Int32) (x2 : Int32) (I : iq_I) (X : iq_X) : Option ((Int32 ⊕ Nat) × iq_I × iq_X) :=
  (zO_needState x1 I X).bind fun q1 =>
  iq_sm q1.1 (fun a2 =>
    (zO_needState x2 I q1.2).bind fun q4 =>
    iq_sm q4.1 (fun a5 =>
      (zP_fewestWords x1 x2 I).bind fun q7 =>
      some (.inl q7.1, q7.2, q4.2)) (fun k6 => some (.inr k6, I, q4.2))) (fun k3 => some (.inr k3, I, q1.2))
def zL_far (x1 : Int32) (x2 : Int32) (I : iq_I) (J : iq_J) (X : iq_X) : Option (Int32 × iq_I × iq_J × iq_X) :=
  (zO_far x1 x2 I X).bind fun q1 =>
  iq_sm q1.1 (fun a2 =>
    ir_let (iq_upJ J 114 0 (Int32.toInt64 a2)) fun J4 =>
    some ((0 : Int32), q1.2.1, J4, q1.2.2)) (fun k3 => if k3 = 0 then (
    some ((1 : Int32), q1.2.1, J, q1.2.2)) else (
  if k3 = 1 then (
    none) else none))
def zM_isState_18 (s1 : Int32) (I : iq_I) : Option (Int32 × iq_I) :=
  (zM_right s1 (1 : Int32) I).bind fun q1 =>
  if q1.1 = 0 ∨ q1.1 = 1 then some (q1.1, q1.2) else none
def zM_isState_17  (I : iq_I) : Option (Int32 × iq_I) :=
  zM_isState_18 (0 : Int32) I
def zM_isState (x1 : Int32) (I : iq_I) : Option (Int32 × iq_I) :=
  if x1 < 0 then (
    zM_isState_17 I) else (
    if (I 76 1) ≤ x1 then (
      zM_isState_17 I) else (
      zM_isState_18 (1 : Int32) I))
def zM_isArc (x1 : Int32) (x2 : Int32) (I : iq_I) : Option (Int32) :=
  (zM_leads x1 x2 I).bind fun q1 =>
  if q1 = (-1 : Int32) then (
    some (0 : Int32)) else (
    if iq_in x2 14 then (
      if ¬ (((I 76 57) >>> ((I 79 (Int32.toNatClampNeg x2)) &&& 31)) &&& (1 : Int32)) = 0 then (
        some (0 : Int32)) else (
        some (1 : Int32))) else none)
def zM_onward_l15_b (x1 : Int32) (x3 : Int32) (I : iq_I) (x2 : Int32) (x4 : Int32)  : Option ((Int32 × Int32) ⊕ (Int32)) :=
  if (I 76 2) ≤ x4 then (
    some (.inr x2)) else (
    if ¬ ((x1 >>> (x3 &&& 31)) &&& (1 : Int32)) = (1 : Int32) then (
      some (.inl (x2, (x4 + (1 : Int32))))) else (
      (zM_isArc x3 x4 I).bind fun q1 =>
      if q1 = 0 then (
        some (.inl (x2, (x4 + (1 : Int32))))) else (
        (zM_leads x3 x4 I).bind fun q2 =>
        some (.inl ((x2 ||| ((1 : Int32) <<< (q2 &&& 31))), (x4 + (1 : Int32)))))))
def zM_onward_l15 (x1 : Int32) (x3 : Int32) (I : iq_I) (n : Nat) (v : Int32 × Int32) : Option (Int32) := iq_lp (fun v => zM_onward_l15_b x1 x3 I v.1 v.2) n v
def zM_onward_l4_b (x1 : Int32) (I : iq_I) (x2 : Int32) (x3 : Int32)  : Option ((Int32 × Int32) ⊕ (Int32)) :=
  if (I 76 1) ≤ x3 then (
    some (.inr x2)) else (
    (zM_onward_l15 x1 x3 I ir_F (x2, (0 : Int32))).bind fun w3 =>
    some (.inl (w3, (x3 + (1 : Int32)))))
def zM_onward_l4 (x1 : Int32) (I : iq_I) (n : Nat) (v : Int32 × Int32) : Option (Int32) := iq_lp (fun v => zM_onward_l4_b x1 I v.1 v.2) n v
def zM_onward (x1 : Int32) (I : iq_I) : Option (Int32) :=
  (zM_onward_l4 x1 I ir_F ((0 : Int32), (0 : Int32))).bind fun w4 =>
  some w4
def zM_far_l30_b (x2 : Int32) (I : iq_I) (x3 : Int32) (x4 : Int32)  : Option ((Int32 × Int32) ⊕ ((Unit) ⊕ (Int32 × iq_I))) :=
  if (I 76 1) < x4 then (
    some (.inr (.inl ()))) else (
    if ¬ ((x3 >>> (x2 &&& 31)) &&& (1 : Int32)) = (1 : Int32) then (
      (zM_onward x3 I).bind fun q4 =>
      some (.inl ((x3 ||| q4), (x4 + (1 : Int32))))) else (
      some (.inr (.inr (x4, I)))))
def zM_far_l30 (x2 : Int32) (I : iq_I) (n : Nat) (v : Int32 × Int32) : Option ((Unit) ⊕ (Int32 × iq_I)) := iq_lp (fun v => zM_far_l30_b x2 I v.1 v.2) n v
def zM_far (x1 : Int32) (x2 : Int32) (I : iq_I) : Option (Int32 × iq_I) :=
  ir_let (iq_upI I 76 0 (0 : Int32)) fun I1 =>
  (zM_isState x1 I1).bind fun q2 =>
  if q2.1 = 0 then (
    some ((0 : Int32), q2.2)) else (
    (zM_isState x2 q2.2).bind fun q3 =>
    if ¬ q3.1 = 0 then (
      (zM_far_l30 x2 q3.2 ir_F (((1 : Int32) <<< (x1 &&& 31)), (0 : Int32))).bind fun w5 =>
      ir_sm w5 (fun a6 =>
        some ((-1 : Int32), q3.2)) (fun b7 => some b7)) else (
      some ((0 : Int32), q3.2)))
def zP_reached_l15_b  (I : iq_I) (x2 : Int32) (x3 : Int32)  : Option ((Int32 × Int32) ⊕ (Int32)) :=
  if (I 4 0) ≤ x3 then (
    some (.inr x2)) else (
    (zP_allBehind x2 I).bind fun q3 =>
    some (.inl ((x2 ||| q3), (x3 + (1 : Int32)))))
def zP_reached_l15  (I : iq_I) (n : Nat) (v : Int32 × Int32) : Option (Int32) := iq_lp (fun v => zP_reached_l15_b I v.1 v.2) n v
def zP_reached (x1 : Int32) (I : iq_I) : Option (Int32 × iq_I) :=
  (zP_lookBehind (0 : Int32) I).bind fun q1 =>
  (zP_allBehind ((1 : Int32) <<< (x1 &&& 31)) q1).bind fun q2 =>
  (zP_reached_l15 q1 ir_F (q2, (1 : Int32))).bind fun w4 =>
  some (w4, q1)
def zO_doors (x1 : Int32) (I : iq_I) (X : iq_X) : Option ((Int32 ⊕ Nat) × iq_I × iq_X) :=
  (zO_needState x1 I X).bind fun q1 =>
  iq_sm q1.1 (fun a2 =>
    (zP_reached x1 I).bind fun q4 =>
    some (.inl q4.1, q4.2, q1.2)) (fun k3 => some (.inr k3, I, q1.2))
def zL_doors (x1 : Int32) (I : iq_I) (J : iq_J) (X : iq_X) : Option (Int32 × iq_I × iq_J × iq_X) :=
  (zO_doors x1 I X).bind fun q1 =>
  iq_sm q1.1 (fun a2 =>
    ir_let (iq_upJ J 114 0 (Int32.toInt64 a2)) fun J4 =>
    some ((0 : Int32), q1.2.1, J4, q1.2.2)) (fun k3 => if k3 = 0 then (
    some ((1 : Int32), q1.2.1, J, q1.2.2)) else (
  if k3 = 1 then (
    none) else none))
def zM_doorsOf_l10_b  (I : iq_I) (x2 : Int32) (x3 : Int32)  : Option ((Int32 × Int32) ⊕ (Int32)) :=
  if (I 76 1) ≤ x3 then (
    some (.inr x2)) else (
    (zM_onward x2 I).bind fun q2 =>
    some (.inl ((x2 ||| q2), (x3 + (1 : Int32)))))
def zM_doorsOf_l10  (I : iq_I) (n : Nat) (v : Int32 × Int32) : Option (Int32) := iq_lp (fun v => zM_doorsOf_l10_b I v.1 v.2) n v
def zM_doorsOf (x1 : Int32) (I : iq_I) : Option (Int32) :=
  (zM_onward ((1 : Int32) <<< (x1 &&& 31)) I).bind fun q1 =>
  (zM_doorsOf_l10 I ir_F (q1, (0 : Int32))).bind fun w3 =>
  some w3
def zM_doors (x1 : Int32) (I : iq_I) : Option (Int32 × iq_I) :=
  ir_let (iq_upI I 76 0 (0 : Int32)) fun I1 =>
  (zM_isState x1 I1).bind fun q2 =>
  if q2.1 = 0 then (
    some ((0 : Int32), q2.2)) else (
    (zM_doorsOf x1 q2.2).bind fun q3 =>
    some (q3, q2.2))
def zP_deadEnds_l4_b (x1 : Int32) (I : iq_I) (x2 : Int32) (x3 : Int32)  : Option ((Int32 × Int32) ⊕ (Int32)) :=
  if (I 4 2) ≤ x3 then (
    some (.inr x2)) else (
    (zU_leadsTo_4 x1 x3 I).bind fun q1 =>
    if q1 = (-1 : Int32) then (
      some (.inl (x2, (x3 + (1 : Int32))))) else (
      (zU_someFollows q1 I).bind fun q2 =>
      if ¬ q2 = 0 then (
        some (.inl (x2, (x3 + (1 : Int32))))) else (
        some (.inl ((x2 ||| ((1 : Int32) <<< (x3 &&& 31))), (x3 + (1 : Int32)))))))
def zP_deadEnds_l4 (x1 : Int32) (I : iq_I) (n : Nat) (v : Int32 × Int32) : Option (Int32) := iq_lp (fun v => zP_deadEnds_l4_b x1 I v.1 v.2) n v
def zP_deadEnds (x1 : Int32) (I : iq_I) : Option (Int32) :=
  (zP_deadEnds_l4 x1 I ir_F ((0 : Int32), (0 : Int32))).bind fun w3 =>
  some w3
def zO_crimes (x1 : Int32) (I : iq_I) (X : iq_X) : Option ((Int32 ⊕ Nat) × iq_X) :=
  (zO_needState x1 I X).bind fun q1 =>
  iq_sm q1.1 (fun a2 =>
    (zP_deadEnds x1 I).bind fun q4 =>
    some (.inl q4, q1.2)) (fun k3 => some (.inr k3, q1.2))
def zL_crimes (x1 : Int32) (I : iq_I) (J : iq_J) (X : iq_X) : Option (Int32 × iq_J × iq_X) :=
  (zO_crimes x1 I X).bind fun q1 =>
  iq_sm q1.1 (fun a2 =>
    ir_let (iq_upJ J 114 0 (Int32.toInt64 a2)) fun J4 =>
    some ((0 : Int32), J4, q1.2)) (fun k3 => if k3 = 0 then (
    some ((1 : Int32), J, q1.2)) else (
  if k3 = 1 then (
    none) else none))
def zM_crimes_l19_b (x1 : Int32) (I : iq_I) (x2 : Int32) (x3 : Int32)  : Option ((Int32 × Int32) ⊕ (Int32)) :=
  if (I 76 2) ≤ x3 then (
    some (.inr x2)) else (
    (zM_leads x1 x3 I).bind fun q3 =>
    if q3 = (-1 : Int32) then (
      some (.inl ((x2 ||| (0 : Int32)), (x3 + (1 : Int32))))) else (
      (zM_leads x1 x3 I).bind fun q4 =>
      (zM_canFollow q4 I).bind fun q5 =>
      if ¬ q5 = 0 then (
        some (.inl ((x2 ||| (0 : Int32)), (x3 + (1 : Int32))))) else (
        some (.inl ((x2 ||| ((1 : Int32) <<< (x3 &&& 31))), (x3 + (1 : Int32)))))))
def zM_crimes_l19 (x1 : Int32) (I : iq_I) (n : Nat) (v : Int32 × Int32) : Option (Int32) := iq_lp (fun v => zM_crimes_l19_b x1 I v.1 v.2) n v
def zM_crimes (x1 : Int32) (I : iq_I) : Option (Int32 × iq_I) :=
  ir_let (iq_upI I 76 0 (0 : Int32)) fun I1 =>
  (zM_isState x1 I1).bind fun q2 =>
  if ¬ q2.1 = 0 then (
    (zM_crimes_l19 x1 q2.2 ir_F ((0 : Int32), (0 : Int32))).bind fun w6 =>
    some (w6, q2.2)) else (
    some ((0 : Int32), q2.2))
def zA_copyFrom_53_19  (I : iq_I) : Option (iq_I) :=
  ir_let (iq_upI I 53 0 (I 19 0)) fun I1 =>
  ir_let (iq_cpI I1 20 54 0 0 40) fun I2 =>
  ir_let (iq_cpI I2 21 55 0 0 40) fun I3 =>
  ir_let (iq_cpI I3 22 56 0 0 40) fun I4 =>
  ir_let (iq_cpI I4 23 57 0 0 40) fun I5 =>
  some I5
def zG_copyFrom_50_16  (I : iq_I) : Option (iq_I) :=
  ir_let (iq_upI I 50 0 (I 16 0)) fun I1 =>
  ir_let (iq_upI I1 50 1 (I1 16 1)) fun I2 =>
  ir_let (iq_upI I2 50 2 (I2 16 2)) fun I3 =>
  ir_let (iq_cpI I3 17 51 0 0 5) fun I4 =>
  ir_let (iq_cpI I4 18 52 0 0 5) fun I5 =>
  ir_let (iq_cpI I5 24 58 0 0 200) fun I6 =>
  ir_let (iq_cpI I6 25 59 0 0 3) fun I7 =>
  ir_let (iq_cpI I7 26 60 0 0 3) fun I8 =>
  (zA_copyFrom_53_19 I8).bind fun q9 =>
  some q9
def zH_nextSeed (x0 : Int32) (I : iq_I) : Option (Int32) :=
  some ((x0 * (1103515245 : Int32)) + (12345 : Int32))
def zH_draw (x0 : Int32) (x1 : Int32) (I : iq_I) : Option (Int32) :=
  if 0 < x1 then (
    if x1 = 0 then none else (
      some (((ir_ushr x0 (16 : Int32)) &&& (32767 : Int32)) - ((ir_ushr x0 (16 : Int32)) &&& (32767 : Int32)) / x1 * x1))) else (
    some (0 : Int32))
def zG_beginOf_50 (x1 : Int32) (I : iq_I) : Option (Int32) :=
  if x1 < 0 then (
    some (-1 : Int32)) else (
    if x1 < (I 50 0) then (
      if iq_in x1 5 then (
        some (I 51 (Int32.toNatClampNeg x1))) else none) else (
      some (-1 : Int32)))
def zG_lengthOf_50 (x1 : Int32) (I : iq_I) : Option (Int32) :=
  if x1 < 0 then (
    some (0 : Int32)) else (
    if x1 < (I 50 0) then (
      if iq_in x1 5 then (
        some (I 52 (Int32.toNatClampNeg x1))) else none) else (
      some (0 : Int32)))
def zG_wordAt_50 (x1 : Int32) (x2 : Int32) (I : iq_I) : Option (Int32) :=
  if x1 < 0 then (
    some (-1 : Int32)) else (
    if (I 50 0) ≤ x1 then (
      some (-1 : Int32)) else (
      if x2 < 0 then (
        some (-1 : Int32)) else (
        if iq_in x1 5 then (
          if x2 < (I 52 (Int32.toNatClampNeg x1)) then (
            if iq_in ((x1 * (40 : Int32)) + x2) 200 then (
              some (I 58 (Int32.toNatClampNeg ((x1 * (40 : Int32)) + x2)))) else none) else (
            some (-1 : Int32))) else none)))
def zU_stateFrom_4_50_l13_b (x2 : Int32) (x4 : Int32) (x6 : Int32) (I : iq_I) (x5 : Int32) (x7 : Int32)  : Option ((Int32 × Int32) ⊕ (Int32)) :=
  if x6 ≤ x7 then (
    some (.inr x5)) else (
    if x5 = (-1 : Int32) then (
      some (.inr x5)) else (
      if x7 = x4 then (
        some (.inl (x5, (x7 + (1 : Int32))))) else (
        (zG_wordAt_50 x2 x7 I).bind fun q2 =>
        (zU_leadsTo_4 x5 q2 I).bind fun q3 =>
        some (.inl (q3, (x7 + (1 : Int32)))))))
def zU_stateFrom_4_50_l13 (x2 : Int32) (x4 : Int32) (x6 : Int32) (I : iq_I) (n : Nat) (v : Int32 × Int32) : Option (Int32) := iq_lp (fun v => zU_stateFrom_4_50_l13_b x2 x4 x6 I v.1 v.2) n v
def zU_stateFrom_4_50 (x2 : Int32) (x3 : Int32) (x4 : Int32) (I : iq_I) : Option (Int32) :=
  (zG_lengthOf_50 x2 I).bind fun q1 =>
  (zU_stateFrom_4_50_l13 x2 x4 q1 I ir_F (x3, (0 : Int32))).bind fun w4 =>
  some w4
def zU_stateOf_4_50 (x2 : Int32) (I : iq_I) : Option (Int32) :=
  (zG_beginOf_50 x2 I).bind fun q1 =>
  (zU_stateFrom_4_50 x2 q1 (-1 : Int32) I).bind fun q2 =>
  some q2
def zH_isFree_69_50 (x2 : Int32) (x3 : Int32) (x4 : Int32) (I : iq_I) : Option (Int32) :=
  (zU_leadsTo_4 x3 x4 I).bind fun q1 =>
  if q1 = (-1 : Int32) then (
    some (0 : Int32)) else (
    (zU_someFollows q1 I).bind fun q2 =>
    if q2 = 0 then (
      some (0 : Int32)) else (
      (zG_lengthOf_50 x2 I).bind fun q3 =>
      if (40 : Int32) ≤ q3 then (
        some (0 : Int32)) else (
        some (1 : Int32))))
def zG_timesIn_50_l19_b (x1 : Int32) (x2 : Int32) (I : iq_I) (x3 : Int32) (x4 : Int32)  : Option ((Int32 × Int32) ⊕ (Int32)) :=
  if iq_in x1 5 then (
    if (I 52 (Int32.toNatClampNeg x1)) ≤ x4 then (
      some (.inr x3)) else (
      if iq_in ((x1 * (40 : Int32)) + x4) 200 then (
        if ¬ (I 58 (Int32.toNatClampNeg ((x1 * (40 : Int32)) + x4))) = x2 then (
          some (.inl (x3, (x4 + (1 : Int32))))) else (
          some (.inl ((x3 + (1 : Int32)), (x4 + (1 : Int32)))))) else none)) else none
def zG_timesIn_50_l19 (x1 : Int32) (x2 : Int32) (I : iq_I) (n : Nat) (v : Int32 × Int32) : Option (Int32) := iq_lp (fun v => zG_timesIn_50_l19_b x1 x2 I v.1 v.2) n v
def zG_timesIn_50 (x1 : Int32) (x2 : Int32) (I : iq_I) : Option (Int32) :=
  if x1 < 0 then (
    some (0 : Int32)) else (
    if x1 < (I 50 0) then (
      (zG_timesIn_50_l19 x1 x2 I ir_F ((0 : Int32), (0 : Int32))).bind fun w1 =>
      some w1) else (
      some (0 : Int32)))
def zH_fillValues_69_50_130 (s1 : Int32) (s2 : Int32) (I : iq_I) : Option (iq_I) :=
  if iq_in s1 7 then (
    ir_let (iq_upI I 70 (Int32.toNatClampNeg s1) s2) fun I12 =>
    some I12) else none
def zH_fillValues_69_50_49 (x2 : Int32) (x3 : Int32) (x4 : Int32) (x5 : Int32) (s0 : Int32) (I : iq_I) : Option (iq_I) :=
  (zU_kindOf x3 I).bind fun q3 =>
  ir_let (iq_upI I 70 0 q3) fun I4 =>
  (zU_lengthOf_4 x3 I4).bind fun q5 =>
  ir_let (iq_upI I4 70 1 q5) fun I6 =>
  ir_let (iq_upI I6 70 2 x3) fun I7 =>
  ir_let (iq_upI I7 70 3 x4) fun I8 =>
  ir_let (iq_upI I8 70 4 x5) fun I9 =>
  (zG_timesIn_50 x2 x3 I9).bind fun q10 =>
  ir_let (iq_upI I9 70 5 q10) fun I11 =>
  if s0 = 0 then (
    zH_fillValues_69_50_130 (6 : Int32) (0 : Int32) I11) else (
    zH_fillValues_69_50_130 (6 : Int32) (1 : Int32) I11)
def zH_fillValues_69_50_48 (x2 : Int32) (x3 : Int32) (x4 : Int32) (x5 : Int32) (I : iq_I) : Option (iq_I) :=
  zH_fillValues_69_50_49 x2 x3 x4 x5 (0 : Int32) I
def zH_fillValues_69_50 (x2 : Int32) (x3 : Int32) (x4 : Int32) (I : iq_I) : Option (iq_I) :=
  (zG_lengthOf_50 x2 I).bind fun q1 =>
  (zG_wordAt_50 x2 (q1 - (1 : Int32)) I).bind fun q2 =>
  if q2 = (-1 : Int32) then (
    zH_fillValues_69_50_48 x2 x3 x4 q1 I) else (
    (zU_lastLetter q2 I).bind fun q13 =>
    (zU_lastLetter x3 I).bind fun q14 =>
    if ¬ q13 = q14 then (
      zH_fillValues_69_50_48 x2 x3 x4 q1 I) else (
      zH_fillValues_69_50_49 x2 x3 x4 q1 (1 : Int32) I))
def zH_isLawful_69_50 (x2 : Int32) (x3 : Int32) (x4 : Int32) (I : iq_I) : Option (Int32 × iq_I) :=
  if ¬ (I 8 1) = 0 then (
    (zH_fillValues_69_50 x2 x3 x4 I).bind fun q1 =>
    (zE_give (4 : Int32) q1).bind fun q2 =>
    if q2.1 = 0 then (
      some ((0 : Int32), q2.2)) else (
      some ((1 : Int32), q2.2))) else (
    some ((1 : Int32), I))
