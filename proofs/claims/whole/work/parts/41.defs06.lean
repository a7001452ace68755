/-! ===== the methods as pure functions (printed by wip/whole/emitall.py, split.py) ===== -/
def zM_culprit_l32_b (x1 : Int32) (x2 : Int32) (I : iq_I) (x3 : Int32) (x4 : Int32) (x5 : Int32)  : Option ((Int32 × Int32 × Int32) ⊕ (Int32 × Int32)) :=
  if iq_in x1 206 then (
    if (I 98 (Int32.toNatClampNeg x1)) ≤ x5 then (
      some (.inr (x3, x4))) else (
      (zM_stateNow_76_98 x1 I).bind fun q4 =>
      if ¬ q4 = (-1 : Int32) then (
        some (.inr (x3, x4))) else (
        if iq_in x1 5 then (
          (zM_stateOf_76_98 x1 (I 83 (Int32.toNatClampNeg x1)) x5 I).bind fun q5 =>
          if ¬ q5 = (-1 : Int32) then (
            if ¬ x4 = (-1 : Int32) then (
              some (.inl ((x3 + (1 : Int32)), x4, (x5 + (1 : Int32))))) else (
              some (.inl ((x3 + (1 : Int32)), x5, (x5 + (1 : Int32)))))) else (
            some (.inl (x3, x4, (x5 + (1 : Int32)))))) else none))) else none
def zM_culprit_l32 (x1 : Int32) (x2 : Int32) (I : iq_I) (n : Nat) (v : Int32 × Int32 × Int32) : Option (Int32 × Int32) := iq_lp (fun v => zM_culprit_l32_b x1 x2 I v.1 v.2.1 v.2.2) n v
def zM_culprit_99 (x2 : Int32) (x3 : Int32) (x4 : Int32) (I : iq_I) : Option (Int32 × iq_I) :=
  if ¬ x2 = 0 then (
    some (x4, I)) else (
    some (x3, I))
def zM_culprit (x1 : Int32) (x2 : Int32) (I : iq_I) : Option (Int32 × iq_I) :=
  ir_let (iq_upI I 76 0 (0 : Int32)) fun I1 =>
  (zM_isSaying x1 I1).bind fun q2 =>
  if q2.1 = 0 then (
    some ((0 : Int32), q2.2)) else (
    (zM_isWhat x2 (1 : Int32) q2.2).bind fun q3 =>
    if ¬ q3.1 = 0 then (
      (zM_culprit_l32 x1 x2 q3.2 ir_F ((0 : Int32), (-1 : Int32), (0 : Int32))).bind fun w6 =>
      zM_culprit_99 x2 w6.1 w6.2 q3.2) else (
      some ((0 : Int32), q3.2)))
def zW_fewestChanges_l17_b (x2 : Int32) (x3 : Int32) (x4 : Int32) (x5 : Int32)  (x6 : Int32) (I : iq_I) : Option ((Int32 × iq_I) ⊕ (iq_I)) :=
  if x5 < x6 then (
    some (.inr I)) else (
    if (40 : Int32) < x6 then (
      some (.inr I)) else (
      if iq_in x6 41 then (
        ir_let (iq_upI I 73 (Int32.toNatClampNeg x6) x6) fun I3 =>
        some (.inl ((x6 + (1 : Int32)), I3))) else none))
def zW_fewestChanges_l17 (x2 : Int32) (x3 : Int32) (x4 : Int32) (x5 : Int32)  (n : Nat) (v : Int32 × iq_I) : Option (iq_I) := iq_lp (fun v => zW_fewestChanges_l17_b x2 x3 x4 x5 v.1 v.2) n v
def zW_fewestChanges_120 (x2 : Int32) (x3 : Int32) (x4 : Int32) (x5 : Int32) (x6 : Int32) (x7 : Int32) (x8 : Int32) (s0 : Int32) (s1 : Int32) (I : iq_I) : Option ((Int32 × iq_I) ⊕ (iq_I)) :=
  if iq_in x8 41 then (
    if iq_in (x8 - (1 : Int32)) 41 then (
      if iq_in x8 41 then (
        ir_let (iq_upI I 74 (Int32.toNatClampNeg x8) (ir_min (s0 + s1) ((1 : Int32) + (ir_min (I 73 (Int32.toNatClampNeg x8)) (I 74 (Int32.toNatClampNeg (x8 - (1 : Int32)))))))) fun I8 =>
        some (.inl ((x8 + (1 : Int32)), I8))) else none) else none) else none
def zW_fewestChanges_l78_b (x2 : Int32) (x3 : Int32) (x4 : Int32) (x5 : Int32) (x6 : Int32) (x7 : Int32)  (x8 : Int32) (I : iq_I) : Option ((Int32 × iq_I) ⊕ (iq_I)) :=
  if x5 < x8 then (
    some (.inr I)) else (
    if (40 : Int32) < x8 then (
      some (.inr I)) else (
      if iq_in (x8 - (1 : Int32)) 41 then (
        (zG_wordAt_16 x3 (x8 - (1 : Int32)) I).bind fun q7 =>
        if ¬ x7 = q7 then (
          zW_fewestChanges_120 x2 x3 x4 x5 x6 x7 x8 (I 73 (Int32.toNatClampNeg (x8 - (1 : Int32)))) (1 : Int32) I) else (
          zW_fewestChanges_120 x2 x3 x4 x5 x6 x7 x8 (I 73 (Int32.toNatClampNeg (x8 - (1 : Int32)))) (0 : Int32) I)) else none))
def zW_fewestChanges_l78 (x2 : Int32) (x3 : Int32) (x4 : Int32) (x5 : Int32) (x6 : Int32) (x7 : Int32)  (n : Nat) (v : Int32 × iq_I) : Option (iq_I) := iq_lp (fun v => zW_fewestChanges_l78_b x2 x3 x4 x5 x6 x7 v.1 v.2) n v
def zW_fewestChanges_162 (x2 : Int32) (x3 : Int32) (x4 : Int32) (x5 : Int32) (x6 : Int32) (I : iq_I) : Option ((Int32 × iq_I) ⊕ (iq_I)) :=
  ir_let (iq_cpI I 74 73 0 0 41) fun I10 =>
  some (.inl ((x6 + (1 : Int32)), I10))
def zW_fewestChanges_l49_b (x2 : Int32) (x3 : Int32) (x4 : Int32) (x5 : Int32)  (x6 : Int32) (I : iq_I) : Option ((Int32 × iq_I) ⊕ (iq_I)) :=
  if x4 < x6 then (
    some (.inr I)) else (
    (zG_wordAt_16 x2 (x6 - (1 : Int32)) I).bind fun q5 =>
    ir_let (iq_upI I 74 0 x6) fun I6 =>
    (zW_fewestChanges_l78 x2 x3 x4 x5 x6 q5 ir_F ((1 : Int32), I6)).bind fun w9 =>
    zW_fewestChanges_162 x2 x3 x4 x5 x6 w9)
def zW_fewestChanges_l49 (x2 : Int32) (x3 : Int32) (x4 : Int32) (x5 : Int32)  (n : Nat) (v : Int32 × iq_I) : Option (iq_I) := iq_lp (fun v => zW_fewestChanges_l49_b x2 x3 x4 x5 v.1 v.2) n v
def zW_fewestChanges_46 (x2 : Int32) (x3 : Int32) (x4 : Int32) (x5 : Int32) (I : iq_I) : Option (Int32 × iq_I) :=
  (zW_fewestChanges_l49 x2 x3 x4 x5 ir_F ((1 : Int32), I)).bind fun w11 =>
  if x5 < 0 then (
    some ((0 : Int32), w11)) else (
    if (40 : Int32) < x5 then (
      some ((0 : Int32), w11)) else (
      if iq_in x5 41 then (
        some ((w11 73 (Int32.toNatClampNeg x5)), w11)) else none))
def zW_fewestChanges (x2 : Int32) (x3 : Int32) (I : iq_I) : Option (Int32 × iq_I) :=
  (zG_lengthOf_16 x2 I).bind fun q1 =>
  (zG_lengthOf_16 x3 I).bind fun q2 =>
  (zW_fewestChanges_l17 x2 x3 q1 q2 ir_F ((0 : Int32), I)).bind fun w4 =>
  zW_fewestChanges_46 x2 x3 q1 q2 w4
def zW_nearestTwo_l24_b (x4 : Int32)  (x2 : Int32) (x3 : Int32) (x5 : Int32) (I : iq_I) : Option ((Int32 × Int32 × Int32 × iq_I) ⊕ (Int32 × Int32 × iq_I)) :=
  if (I 16 0) ≤ x5 then (
    some (.inr (x2, x3, I))) else (
    (zW_fewestChanges x4 x5 I).bind fun q1 =>
    if x3 ≤ q1.1 then (
      some (.inl (x2, x3, (x5 + (1 : Int32)), q1.2))) else (
      some (.inl ((((10 : Int32) * x4) + x5), q1.1, (x5 + (1 : Int32)), q1.2))))
def zW_nearestTwo_l24 (x4 : Int32)  (n : Nat) (v : Int32 × Int32 × Int32 × iq_I) : Option (Int32 × Int32 × iq_I) := iq_lp (fun v => zW_nearestTwo_l24_b x4 v.1 v.2.1 v.2.2.1 v.2.2.2) n v
def zW_nearestTwo_l9_b   (x2 : Int32) (x3 : Int32) (x4 : Int32) (I : iq_I) : Option ((Int32 × Int32 × Int32 × iq_I) ⊕ (Int32 × iq_I)) :=
  if (I 16 0) ≤ x4 then (
    some (.inr (x2, I))) else (
    (zW_nearestTwo_l24 x4 ir_F (x2, x3, (x4 + (1 : Int32)), I)).bind fun w2 =>
    some (.inl (w2.1, w2.2.1, (x4 + (1 : Int32)), w2.2.2)))
def zW_nearestTwo_l9   (n : Nat) (v : Int32 × Int32 × Int32 × iq_I) : Option (Int32 × iq_I) := iq_lp (fun v => zW_nearestTwo_l9_b  v.1 v.2.1 v.2.2.1 v.2.2.2) n v
def zW_nearestTwo  (I : iq_I) : Option (Int32 × iq_I) :=
  (zW_nearestTwo_l9  ir_F ((-1 : Int32), (1000 : Int32), (0 : Int32), I)).bind fun w3 =>
  some (w3.1, w3.2)
def zO_nearest  (I : iq_I) : Option (Int32 × iq_I) :=
  (zW_nearestTwo I).bind fun q1 =>
  some (q1.1, q1.2)
def zM_alikeOf_l2_b (x1 : Int32) (x2 : Int32)  (x3 : Int32) (I : iq_I) : Option ((Int32 × iq_I) ⊕ (iq_I)) :=
  if iq_in x2 206 then (
    if (I 98 (Int32.toNatClampNeg x2)) < x3 then (
      some (.inr I)) else (
      if iq_in x3 41 then (
        ir_let (iq_upI I 109 (Int32.toNatClampNeg x3) x3) fun I1 =>
        some (.inl ((x3 + (1 : Int32)), I1))) else none)) else none
def zM_alikeOf_l2 (x1 : Int32) (x2 : Int32)  (n : Nat) (v : Int32 × iq_I) : Option (iq_I) := iq_lp (fun v => zM_alikeOf_l2_b x1 x2 v.1 v.2) n v
def zM_alikeOf_181 (x1 : Int32) (x2 : Int32) (x3 : Int32) (x4 : Int32) (x5 : Int32) (s1 : Int32) (s2 : Int32) (I : iq_I) : Option ((Int32 × Int32 × iq_I) ⊕ (iq_I)) :=
  if iq_in s1 41 then (
    ir_let (iq_upI I 109 (Int32.toNatClampNeg s1) s2) fun I6 =>
    some (.inl (x4, (x5 + (1 : Int32)), I6))) else none
def zM_alikeOf_141 (x1 : Int32) (x2 : Int32) (x3 : Int32) (x4 : Int32) (x5 : Int32) (s0 : Int32) (I : iq_I) : Option ((Int32 × Int32 × iq_I) ⊕ (iq_I)) :=
  if iq_in (x5 - (1 : Int32)) 41 then (
    if s0 ≤ ((I 109 (Int32.toNatClampNeg (x5 - (1 : Int32)))) + (1 : Int32)) then (
      zM_alikeOf_181 x1 x2 x3 x4 x5 x5 s0 I) else (
      if iq_in (x5 - (1 : Int32)) 41 then (
        zM_alikeOf_181 x1 x2 x3 x4 x5 x5 ((I 109 (Int32.toNatClampNeg (x5 - (1 : Int32)))) + (1 : Int32)) I) else none)) else none
def zM_alikeOf_101 (x1 : Int32) (x2 : Int32) (x3 : Int32) (x5 : Int32) (s0 : Int32) (s1 : Int32) (I : iq_I) : Option ((Int32 × Int32 × iq_I) ⊕ (iq_I)) :=
  if iq_in x5 41 then (
    if iq_in x5 41 then (
      if (s0 + s1) ≤ ((I 109 (Int32.toNatClampNeg x5)) + (1 : Int32)) then (
        zM_alikeOf_141 x1 x2 x3 (I 109 (Int32.toNatClampNeg x5)) x5 (s0 + s1) I) else (
        if iq_in x5 41 then (
          zM_alikeOf_141 x1 x2 x3 (I 109 (Int32.toNatClampNeg x5)) x5 ((I 109 (Int32.toNatClampNeg x5)) + (1 : Int32)) I) else none)) else none) else none
def zM_alikeOf_l55_b (x1 : Int32) (x2 : Int32) (x3 : Int32)  (x4 : Int32) (x5 : Int32) (I : iq_I) : Option ((Int32 × Int32 × iq_I) ⊕ (iq_I)) :=
  if iq_in x2 206 then (
    if (I 98 (Int32.toNatClampNeg x2)) < x5 then (
      some (.inr I)) else (
      (zM_wordAt_76_98 x1 (x3 - (1 : Int32)) I).bind fun q4 =>
      (zM_wordAt_76_98 x2 (x5 - (1 : Int32)) I).bind fun q5 =>
      if ¬ q4 = q5 then (
        zM_alikeOf_101 x1 x2 x3 x5 x4 (1 : Int32) I) else (
        zM_alikeOf_101 x1 x2 x3 x5 x4 (0 : Int32) I))) else none
def zM_alikeOf_l55 (x1 : Int32) (x2 : Int32) (x3 : Int32)  (n : Nat) (v : Int32 × Int32 × iq_I) : Option (iq_I) := iq_lp (fun v => zM_alikeOf_l55_b x1 x2 x3 v.1 v.2.1 v.2.2) n v
def zM_alikeOf_l27_b (x1 : Int32) (x2 : Int32)  (x3 : Int32) (I : iq_I) : Option ((Int32 × iq_I) ⊕ (iq_I)) :=
  if iq_in x1 206 then (
    if (I 98 (Int32.toNatClampNeg x1)) < x3 then (
      some (.inr I)) else (
      ir_let (iq_upI I 109 0 x3) fun I3 =>
      (zM_alikeOf_l55 x1 x2 x3 ir_F ((I 109 0), (1 : Int32), I3)).bind fun w7 =>
      some (.inl ((x3 + (1 : Int32)), w7)))) else none
def zM_alikeOf_l27 (x1 : Int32) (x2 : Int32)  (n : Nat) (v : Int32 × iq_I) : Option (iq_I) := iq_lp (fun v => zM_alikeOf_l27_b x1 x2 v.1 v.2) n v
def zM_alikeOf (x1 : Int32) (x2 : Int32) (I : iq_I) : Option (Int32 × iq_I) :=
  (zM_alikeOf_l2 x1 x2 ir_F ((0 : Int32), I)).bind fun w2 =>
  (zM_alikeOf_l27 x1 x2 ir_F ((1 : Int32), w2)).bind fun w8 =>
  if iq_in x2 206 then (
    if iq_in (w8 98 (Int32.toNatClampNeg x2)) 41 then (
      some ((w8 109 (Int32.toNatClampNeg (w8 98 (Int32.toNatClampNeg x2)))), w8)) else none) else none
def zM_nearest_56 (x3 : Int32) (x4 : Int32) (x5 : Int32) (I : iq_I) : Option ((Int32 × Int32 × Int32 × iq_I) ⊕ (Int32 × Int32 × iq_I)) :=
  some (.inl ((((10 : Int32) * x3) + x4), x5, (x4 + (1 : Int32)), I))
def zM_nearest_l24_b (x3 : Int32)  (x1 : Int32) (x2 : Int32) (x4 : Int32) (I : iq_I) : Option ((Int32 × Int32 × Int32 × iq_I) ⊕ (Int32 × Int32 × iq_I)) :=
  if (I 76 5) ≤ x4 then (
    some (.inr (x1, x2, I))) else (
    (zM_alikeOf x3 x4 I).bind fun q2 =>
    if x1 = (-1 : Int32) then (
      zM_nearest_56 x3 x4 q2.1 q2.2) else (
      if q2.1 < x2 then (
        zM_nearest_56 x3 x4 q2.1 q2.2) else (
        some (.inl (x1, x2, (x4 + (1 : Int32)), q2.2)))))
def zM_nearest_l24 (x3 : Int32)  (n : Nat) (v : Int32 × Int32 × Int32 × iq_I) : Option (Int32 × Int32 × iq_I) := iq_lp (fun v => zM_nearest_l24_b x3 v.1 v.2.1 v.2.2.1 v.2.2.2) n v
def zM_nearest_l11_b   (x1 : Int32) (x2 : Int32) (x3 : Int32) (I : iq_I) : Option ((Int32 × Int32 × Int32 × iq_I) ⊕ (Int32 × iq_I)) :=
  if (I 76 5) ≤ x3 then (
    some (.inr (x1, I))) else (
    (zM_nearest_l24 x3 ir_F (x1, x2, (x3 + (1 : Int32)), I)).bind fun w3 =>
    some (.inl (w3.1, w3.2.1, (x3 + (1 : Int32)), w3.2.2)))
def zM_nearest_l11   (n : Nat) (v : Int32 × Int32 × Int32 × iq_I) : Option (Int32 × iq_I) := iq_lp (fun v => zM_nearest_l11_b  v.1 v.2.1 v.2.2.1 v.2.2.2) n v
def zM_nearest  (I : iq_I) : Option (Int32 × iq_I) :=
  ir_let (iq_upI I 76 0 (0 : Int32)) fun I1 =>
  (zM_nearest_l11  ir_F ((-1 : Int32), (0 : Int32), (0 : Int32), I1)).bind fun w4 =>
  some (w4.1, w4.2)
def zO_alike (x1 : Int32) (x2 : Int32) (I : iq_I) (X : iq_X) : Option ((Int32 ⊕ Nat) × iq_I × iq_X) :=
  (zO_needSaying x1 I X).bind fun q1 =>
  iq_sm q1.1 (fun a2 =>
    (zO_needSaying x2 I q1.2).bind fun q4 =>
    iq_sm q4.1 (fun a5 =>
      (zW_fewestChanges x1 x2 I).bind fun q7 =>
      some (.inl q7.1, q7.2, q4.2)) (fun k6 => some (.inr k6, I, q4.2))) (fun k3 => some (.inr k3, I, q1.2))
def zL_alike (x1 : Int32) (x2 : Int32) (I : iq_I) (J : iq_J) (X : iq_X) : Option (Int32 × iq_I × iq_J × iq_X) :=
  (zO_alike x1 x2 I X).bind fun q1 =>
  iq_sm q1.1 (fun a2 =>
    ir_let (iq_upJ J 114 0 (Int32.toInt64 a2)) fun J4 =>
    some ((0 : Int32), q1.2.1, J4, q1.2.2)) (fun k3 => if k3 = 0 then (
    some ((1 : Int32), q1.2.1, J, q1.2.2)) else (
  if k3 = 1 then (
    none) else none))
def zM_alike (x1 : Int32) (x2 : Int32) (I : iq_I) : Option (Int32 × iq_I) :=
  ir_let (iq_upI I 76 0 (0 : Int32)) fun I1 =>
  (zM_isSaying x1 I1).bind fun q2 =>
  if q2.1 = 0 then (
    some ((0 : Int32), q2.2)) else (
    (zM_isSaying x2 q2.2).bind fun q3 =>
    if q3.1 = 0 then (
      some ((0 : Int32), q3.2)) else (
      (zM_alikeOf x1 x2 q3.2).bind fun q4 =>
      some (q4.1, q4.2)))
def zW_whereBegun_l5_b (x2 : Int32) (I : iq_I) (x3 : Int32) (x4 : Int32)  : Option ((Int32 × Int32) ⊕ (Int32)) :=
  if (I 4 0) ≤ x4 then (
    some (.inr x3)) else (
    (zU_stateFrom_4_16 x2 x4 (-1 : Int32) I).bind fun q1 =>
    if q1 = (-1 : Int32) then (
      some (.inl (x3, (x4 + (1 : Int32))))) else (
      some (.inl ((x3 ||| ((1 : Int32) <<< (x4 &&& 31))), (x4 + (1 : Int32))))))
def zW_whereBegun_l5 (x2 : Int32) (I : iq_I) (n : Nat) (v : Int32 × Int32) : Option (Int32) := iq_lp (fun v => zW_whereBegun_l5_b x2 I v.1 v.2) n v
def zW_whereBegun (x2 : Int32) (I : iq_I) : Option (Int32) :=
  (zW_whereBegun_l5 x2 I ir_F ((0 : Int32), (0 : Int32))).bind fun w2 =>
  some w2
def zO_begun (x1 : Int32) (I : iq_I) (X : iq_X) : Option ((Int32 ⊕ Nat) × iq_X) :=
  (zO_needSaying x1 I X).bind fun q1 =>
  iq_sm q1.1 (fun a2 =>
    (zW_whereBegun x1 I).bind fun q4 =>
    some (.inl q4, q1.2)) (fun k3 => some (.inr k3, q1.2))
def zL_begun (x1 : Int32) (I : iq_I) (J : iq_J) (X : iq_X) : Option (Int32 × iq_J × iq_X) :=
  (zO_begun x1 I X).bind fun q1 =>
  iq_sm q1.1 (fun a2 =>
    ir_let (iq_upJ J 114 0 (Int32.toInt64 a2)) fun J4 =>
    some ((0 : Int32), J4, q1.2)) (fun k3 => if k3 = 0 then (
    some ((1 : Int32), J, q1.2)) else (
  if k3 = 1 then (
    none) else none))
def zM_begun_l19_b (x1 : Int32) (I : iq_I) (x2 : Int32) (x3 : Int32)  : Option ((Int32 × Int32) ⊕ (Int32)) :=
  if (I 76 1) ≤ x3 then (
    some (.inr x2)) else (
    (zM_stateOf_76_98 x1 x3 (-1 : Int32) I).bind fun q3 =>
    if q3 = (-1 : Int32) then (
      some (.inl ((x2 ||| (0 : Int32)), (x3 + (1 : Int32))))) else (
      some (.inl ((x2 ||| ((1 : Int32) <<< (x3 &&& 31))), (x3 + (1 : Int32))))))
def zM_begun_l19 (x1 : Int32) (I : iq_I) (n : Nat) (v : Int32 × Int32) : Option (Int32) := iq_lp (fun v => zM_begun_l19_b x1 I v.1 v.2) n v
def zM_begun (x1 : Int32) (I : iq_I) : Option (Int32 × iq_I) :=
  ir_let (iq_upI I 76 0 (0 : Int32)) fun I1 =>
  (zM_isSaying x1 I1).bind fun q2 =>
  if ¬ q2.1 = 0 then (
    (zM_begun_l19 x1 q2.2 ir_F ((0 : Int32), (0 : Int32))).bind fun w4 =>
    some (w4, q2.2)) else (
    some ((0 : Int32), q2.2))
def zH_whatMayCome_69_16_l16_b (x2 : Int32) (x3 : Int32)  (x4 : Int32) (x5 : Int32) (I : iq_I) : Option ((Int32 × Int32 × iq_I) ⊕ (Int32 × iq_I)) :=
  if (I 4 2) ≤ x5 then (
    some (.inr (x4, I))) else (
    (zH_isFree_69_16 x2 x3 x5 I).bind fun q2 =>
    if q2 = 0 then (
      some (.inl (x4, (x5 + (1 : Int32)), I))) else (
      (zH_isLawful_69_16 x2 x5 (I 16 1) I).bind fun q3 =>
      if q3.1 = 0 then (
        some (.inl (x4, (x5 + (1 : Int32)), q3.2))) else (
        some (.inl ((x4 ||| ((1 : Int32) <<< (x5 &&& 31))), (x5 + (1 : Int32)), q3.2)))))
def zH_whatMayCome_69_16_l16 (x2 : Int32) (x3 : Int32)  (n : Nat) (v : Int32 × Int32 × iq_I) : Option (Int32 × iq_I) := iq_lp (fun v => zH_whatMayCome_69_16_l16_b x2 x3 v.1 v.2.1 v.2.2) n v
def zH_whatMayCome_69_16 (x2 : Int32) (I : iq_I) : Option (Int32 × iq_I) :=
  (zU_stateOf_4_16 x2 I).bind fun q1 =>
  (zH_whatMayCome_69_16_l16 x2 q1 ir_F ((0 : Int32), (0 : Int32), I)).bind fun w4 =>
  some (w4.1, w4.2)
def zH_weigh_69_16_63 (x2 : Int32) (x3 : Int32) (x4 : Int32) (x5 : Int32) (x6 : Int32) (x7 : Int32) (I : iq_I) : Option ((Int32 × Int32 × iq_I) ⊕ (Int32 × iq_I)) :=
  if iq_in x6 14 then (
    ir_let (iq_upI I 71 (Int32.toNatClampNeg x6) (ir_max (0 : Int32) (ir_min (99 : Int32) x7))) fun I2 =>
    if iq_in x6 14 then (
      some (.inl ((x5 + (I2 71 (Int32.toNatClampNeg x6))), (x6 + (1 : Int32)), I2))) else none) else none
def zH_weigh_69_16_l14_b (x2 : Int32) (x3 : Int32) (x4 : Int32)  (x5 : Int32) (x6 : Int32) (I : iq_I) : Option ((Int32 × Int32 × iq_I) ⊕ (Int32 × iq_I)) :=
  if (14 : Int32) ≤ x6 then (
    some (.inr (x5, I))) else (
    if ((x4 >>> (x6 &&& 31)) &&& (1 : Int32)) = 0 then (
      zH_weigh_69_16_63 x2 x3 x4 x5 x6 (0 : Int32) I) else (
      (zH_fillValues_69_16 x3 x6 (I 16 1) I).bind fun q3 =>
      (zE_give x2 q3).bind fun q4 =>
      zH_weigh_69_16_63 x2 x3 x4 x5 x6 q4.1 q4.2))
def zH_weigh_69_16_l14 (x2 : Int32) (x3 : Int32) (x4 : Int32)  (n : Nat) (v : Int32 × Int32 × iq_I) : Option (Int32 × iq_I) := iq_lp (fun v => zH_weigh_69_16_l14_b x2 x3 x4 v.1 v.2.1 v.2.2) n v
def zH_weigh_69_16 (x2 : Int32) (x3 : Int32) (I : iq_I) : Option (Int32 × iq_I) :=
  (zH_whatMayCome_69_16 x3 I).bind fun q1 =>
  (zH_weigh_69_16_l14 x2 x3 q1.1 ir_F ((0 : Int32), (0 : Int32), q1.2)).bind fun w5 =>
  some (w5.1, w5.2)
def zH_weightOf (x1 : Int32) (I : iq_I) : Option (Int32) :=
  if x1 < 0 then (
    some (0 : Int32)) else (
    if x1 < (14 : Int32) then (
      if iq_in x1 14 then (
        some (I 71 (Int32.toNatClampNeg x1))) else none) else (
      some (0 : Int32)))
