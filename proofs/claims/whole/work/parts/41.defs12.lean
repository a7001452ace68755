/-! ===== the methods as pure functions (printed by wip/whole/emitall.py, split.py) ===== -/
def zM_fly_48  (I : iq_I) : Option (Int32 × iq_I) :=
  (zM_refuses (1 : Int32) I).bind fun q4 =>
  some (q4.1, q4.2)
def zM_fly (x1 : Int32) (x2 : Int32) (x3 : Int32) (I : iq_I) : Option (Int32 × iq_I) :=
  ir_let (iq_upI I 76 0 (0 : Int32)) fun I1 =>
  (zM_isSaying x1 I1).bind fun q2 =>
  if q2.1 = 0 then (
    some ((0 : Int32), q2.2)) else (
    (zM_isWord x3 q2.2).bind fun q3 =>
    if ¬ q3.1 = 0 then (
      if iq_in x1 206 then (
        if (q3.2 98 (Int32.toNatClampNeg x1)) = (40 : Int32) then (
          zM_fly_48 q3.2) else (
          if x2 < 0 then (
            zM_fly_48 q3.2) else (
            if iq_in x1 206 then (
              if x2 ≤ (q3.2 98 (Int32.toNatClampNeg x1)) then (
                (zM_keeps q3.2).bind fun q5 =>
                (zM_puts0_76_98 x1 x2 x3 q5).bind fun q6 =>
                if iq_in x1 206 then (
                  some ((q6 98 (Int32.toNatClampNeg x1)), q6)) else none) else (
                zM_fly_48 q3.2)) else none))) else none) else (
      some ((0 : Int32), q3.2)))
def zO_add (x1 : Int32) (x2 : Int32) (I : iq_I) (X : iq_X) : Option ((Int32 ⊕ Nat) × iq_I × iq_X) :=
  (zO_needSaying x1 I X).bind fun q1 =>
  iq_sm q1.1 (fun a2 =>
    (zO_needWord x2 I q1.2).bind fun q4 =>
    iq_sm q4.1 (fun a5 =>
      (zH_whatMayCome_69_16 x1 I).bind fun q7 =>
      if ¬ ((q7.1 >>> (x2 &&& 31)) &&& (1 : Int32)) = 0 then (
        if iq_in x1 5 then (
          (zG_putIn_16 x1 (q7.2 18 (Int32.toNatClampNeg x1)) x2 q7.2).bind fun q8 =>
          (zA_keep (0 : Int32) x1 (q7.2 18 (Int32.toNatClampNeg x1)) x2 q8).bind fun q9 =>
          if iq_in x1 5 then (
            some (.inl (q9 18 (Int32.toNatClampNeg x1)), q9, q4.2)) else none) else none) else (
        (zO_refuseAct q7.2).bind fun q10 =>
        some (.inl q10.1, q10.2, q4.2))) (fun k6 => some (.inr k6, I, q4.2))) (fun k3 => some (.inr k3, I, q1.2))
def zL_add (x1 : Int32) (x2 : Int32) (I : iq_I) (J : iq_J) (X : iq_X) : Option (Int32 × iq_I × iq_J × iq_X) :=
  (zO_add x1 x2 I X).bind fun q1 =>
  iq_sm q1.1 (fun a2 =>
    ir_let (iq_upJ J 114 0 (Int32.toInt64 a2)) fun J4 =>
    some ((0 : Int32), q1.2.1, J4, q1.2.2)) (fun k3 => if k3 = 0 then (
    some ((1 : Int32), q1.2.1, J, q1.2.2)) else (
  if k3 = 1 then (
    none) else none))
def zM_add (x1 : Int32) (x2 : Int32) (I : iq_I) : Option (Int32 × iq_I) :=
  ir_let (iq_upI I 76 0 (0 : Int32)) fun I1 =>
  (zM_isSaying x1 I1).bind fun q2 =>
  if q2.1 = 0 then (
    some ((0 : Int32), q2.2)) else (
    (zM_isWord x2 q2.2).bind fun q3 =>
    if ¬ q3.1 = 0 then (
      (zM_stateNow_76_98 x1 q3.2).bind fun q4 =>
      (zM_mayCome_76_98 x1 q4 x2 q3.2).bind fun q5 =>
      if ¬ q5.1 = 0 then (
        (zM_keeps q5.2).bind fun q6 =>
        if iq_in x1 206 then (
          (zM_puts0_76_98 x1 (q6 98 (Int32.toNatClampNeg x1)) x2 q6).bind fun q7 =>
          if iq_in x1 206 then (
            some ((q7 98 (Int32.toNatClampNeg x1)), q7)) else none) else none) else (
        (zM_refuses (1 : Int32) q5.2).bind fun q8 =>
        some (q8.1, q8.2))) else (
      some ((0 : Int32), q3.2)))
def zO_may (x1 : Int32) (I : iq_I) (X : iq_X) : Option ((Int32 ⊕ Nat) × iq_I × iq_X) :=
  (zO_needSaying x1 I X).bind fun q1 =>
  iq_sm q1.1 (fun a2 =>
    (zH_whatMayCome_69_16 x1 I).bind fun q4 =>
    some (.inl q4.1, q4.2, q1.2)) (fun k3 => some (.inr k3, I, q1.2))
def zL_may (x1 : Int32) (I : iq_I) (J : iq_J) (X : iq_X) : Option (Int32 × iq_I × iq_J × iq_X) :=
  (zO_may x1 I X).bind fun q1 =>
  iq_sm q1.1 (fun a2 =>
    ir_let (iq_upJ J 114 0 (Int32.toInt64 a2)) fun J4 =>
    some ((0 : Int32), q1.2.1, J4, q1.2.2)) (fun k3 => if k3 = 0 then (
    some ((1 : Int32), q1.2.1, J, q1.2.2)) else (
  if k3 = 1 then (
    none) else none))
def zM_may_l30_b (x1 : Int32) (x2 : Int32)  (x3 : Int32) (x4 : Int32) (I : iq_I) : Option ((Int32 × Int32 × iq_I) ⊕ (Int32 × iq_I)) :=
  if (I 76 2) ≤ x4 then (
    some (.inr (x3, I))) else (
    (zM_mayCome_76_98 x1 x2 x4 I).bind fun q4 =>
    if q4.1 = 0 then (
      some (.inl ((x3 ||| (0 : Int32)), (x4 + (1 : Int32)), q4.2))) else (
      some (.inl ((x3 ||| ((1 : Int32) <<< (x4 &&& 31))), (x4 + (1 : Int32)), q4.2))))
def zM_may_l30 (x1 : Int32) (x2 : Int32)  (n : Nat) (v : Int32 × Int32 × iq_I) : Option (Int32 × iq_I) := iq_lp (fun v => zM_may_l30_b x1 x2 v.1 v.2.1 v.2.2) n v
def zM_may (x1 : Int32) (I : iq_I) : Option (Int32 × iq_I) :=
  ir_let (iq_upI I 76 0 (0 : Int32)) fun I1 =>
  (zM_isSaying x1 I1).bind fun q2 =>
  if ¬ q2.1 = 0 then (
    (zM_stateNow_76_98 x1 q2.2).bind fun q3 =>
    (zM_may_l30 x1 q3 ir_F ((0 : Int32), (0 : Int32), q2.2)).bind fun w5 =>
    some (w5.1, w5.2)) else (
    some ((0 : Int32), q2.2))
def zO_saying (x1 : Int32) (x2 : Int32) (I : iq_I) (X : iq_X) : Option ((Int32 ⊕ Nat) × iq_X) :=
  (zO_needSaying x1 I X).bind fun q1 =>
  iq_sm q1.1 (fun a2 =>
    if ¬ x2 = (-1 : Int32) then (
      if ¬ x2 = (-2 : Int32) then (
        if ¬ x2 = (-3 : Int32) then (
          (zO_needPlace x1 x2 I q1.2).bind fun q4 =>
          iq_sm q4.1 (fun a5 =>
            (zG_wordAt_16 x1 x2 I).bind fun q7 =>
            some (.inl q7, q4.2)) (fun k6 => some (.inr k6, q4.2))) else (
          if iq_in x1 5 then (
            some (.inl (I 17 (Int32.toNatClampNeg x1)), q1.2)) else none)) else (
        (zU_stateOf_4_16 x1 I).bind fun q8 =>
        some (.inl q8, q1.2))) else (
      if iq_in x1 5 then (
        some (.inl (I 18 (Int32.toNatClampNeg x1)), q1.2)) else none)) (fun k3 => some (.inr k3, q1.2))
def zL_saying (x1 : Int32) (x2 : Int32) (I : iq_I) (J : iq_J) (X : iq_X) : Option (Int32 × iq_J × iq_X) :=
  (zO_saying x1 x2 I X).bind fun q1 =>
  iq_sm q1.1 (fun a2 =>
    ir_let (iq_upJ J 114 0 (Int32.toInt64 a2)) fun J4 =>
    some ((0 : Int32), J4, q1.2)) (fun k3 => if k3 = 0 then (
    some ((1 : Int32), J, q1.2)) else (
  if k3 = 1 then (
    none) else none))
def zM_saying_35 (x1 : Int32) (x2 : Int32) (s1 : Int32) (I : iq_I) : Option (Int32 × iq_I) :=
  (zM_right s1 (1 : Int32) I).bind fun q3 =>
  if ¬ q3.1 = 0 then (
    if ¬ x2 = (-1 : Int32) then (
      if ¬ x2 = (-2 : Int32) then (
        if ¬ x2 = (-3 : Int32) then (
          (zM_wordAt_76_98 x1 x2 q3.2).bind fun q4 =>
          some (q4, q3.2)) else (
          if iq_in x1 5 then (
            some ((q3.2 83 (Int32.toNatClampNeg x1)), q3.2)) else none)) else (
        (zM_stateNow_76_98 x1 q3.2).bind fun q5 =>
        some (q5, q3.2))) else (
      if iq_in x1 206 then (
        some ((q3.2 98 (Int32.toNatClampNeg x1)), q3.2)) else none)) else (
    some ((0 : Int32), q3.2))
def zM_saying_34 (x1 : Int32) (x2 : Int32) (I : iq_I) : Option (Int32 × iq_I) :=
  zM_saying_35 x1 x2 (0 : Int32) I
def zM_saying (x1 : Int32) (x2 : Int32) (I : iq_I) : Option (Int32 × iq_I) :=
  ir_let (iq_upI I 76 0 (0 : Int32)) fun I1 =>
  (zM_isSaying x1 I1).bind fun q2 =>
  if q2.1 = 0 then (
    some ((0 : Int32), q2.2)) else (
    if x2 < (-3 : Int32) then (
      zM_saying_34 x1 x2 q2.2) else (
      if iq_in x1 206 then (
        if (q2.2 98 (Int32.toNatClampNeg x1)) ≤ x2 then (
          zM_saying_34 x1 x2 q2.2) else (
          zM_saying_35 x1 x2 (1 : Int32) q2.2)) else none))
def zO_arc (x1 : Int32) (x2 : Int32) (I : iq_I) (X : iq_X) : Option ((Int32 ⊕ Nat) × iq_X) :=
  (zO_needState x1 I X).bind fun q1 =>
  iq_sm q1.1 (fun a2 =>
    (zO_needKind x2 I q1.2).bind fun q4 =>
    iq_sm q4.1 (fun a5 =>
      (zU_leadsBy_4 x1 x2 I).bind fun q7 =>
      some (.inl q7, q4.2)) (fun k6 => some (.inr k6, q4.2))) (fun k3 => some (.inr k3, q1.2))
def zL_arc (x1 : Int32) (x2 : Int32) (I : iq_I) (J : iq_J) (X : iq_X) : Option (Int32 × iq_J × iq_X) :=
  (zO_arc x1 x2 I X).bind fun q1 =>
  iq_sm q1.1 (fun a2 =>
    ir_let (iq_upJ J 114 0 (Int32.toInt64 a2)) fun J4 =>
    some ((0 : Int32), J4, q1.2)) (fun k3 => if k3 = 0 then (
    some ((1 : Int32), J, q1.2)) else (
  if k3 = 1 then (
    none) else none))
def zM_arc (x1 : Int32) (x2 : Int32) (I : iq_I) : Option (Int32 × iq_I) :=
  ir_let (iq_upI I 76 0 (0 : Int32)) fun I1 =>
  (zM_isState x1 I1).bind fun q2 =>
  if q2.1 = 0 then (
    some ((0 : Int32), q2.2)) else (
    (zM_isWhat x2 (7 : Int32) q2.2).bind fun q3 =>
    if q3.1 = 0 then (
      some ((0 : Int32), q3.2)) else (
      if iq_in (((8 : Int32) * x1) + x2) 80 then (
        some ((q3.2 80 (Int32.toNatClampNeg (((8 : Int32) * x1) + x2))), q3.2)) else none))
def zO_kind (x1 : Int32) (I : iq_I) (X : iq_X) : Option ((Int32 ⊕ Nat) × iq_X) :=
  (zO_needWord x1 I X).bind fun q1 =>
  iq_sm q1.1 (fun a2 =>
    if iq_in x1 14 then (
      some (.inl (I 6 (Int32.toNatClampNeg x1)), q1.2)) else none) (fun k3 => some (.inr k3, q1.2))
def zL_kind (x1 : Int32) (I : iq_I) (J : iq_J) (X : iq_X) : Option (Int32 × iq_J × iq_X) :=
  (zO_kind x1 I X).bind fun q1 =>
  iq_sm q1.1 (fun a2 =>
    ir_let (iq_upJ J 114 0 (Int32.toInt64 a2)) fun J4 =>
    some ((0 : Int32), J4, q1.2)) (fun k3 => if k3 = 0 then (
    some ((1 : Int32), J, q1.2)) else (
  if k3 = 1 then (
    none) else none))
def zM_kind (x1 : Int32) (I : iq_I) : Option (Int32 × iq_I) :=
  ir_let (iq_upI I 76 0 (0 : Int32)) fun I1 =>
  (zM_isWord x1 I1).bind fun q2 =>
  if q2.1 = 0 then (
    some ((0 : Int32), q2.2)) else (
    if iq_in x1 14 then (
      some ((q2.2 79 (Int32.toNatClampNeg x1)), q2.2)) else none)
def zU_letterAt_4 (x1 : Int32) (x2 : Int32) (I : iq_I) : Option (Int32) :=
  if x1 < 0 then (
    some (0 : Int32)) else (
    if (14 : Int32) ≤ x1 then (
      some (0 : Int32)) else (
      if x2 < 0 then (
        some (0 : Int32)) else (
        if x2 < (9 : Int32) then (
          if iq_in ((x1 * (9 : Int32)) + x2) 126 then (
            some (I 13 (Int32.toNatClampNeg ((x1 * (9 : Int32)) + x2)))) else none) else (
          some (0 : Int32)))))
def zO_letter_37  (I : iq_I) (X : iq_X) : Option ((Int32 ⊕ Nat) × iq_X) :=
  some (.inr 0, (ir_xx X))
def zO_letter (x1 : Int32) (x2 : Int32) (I : iq_I) (X : iq_X) : Option ((Int32 ⊕ Nat) × iq_X) :=
  (zO_needWord x1 I X).bind fun q1 =>
  iq_sm q1.1 (fun a2 =>
    if ¬ x2 = (-1 : Int32) then (
      if x2 < 0 then (
        zO_letter_37 I q1.2) else (
        if iq_in x1 14 then (
          if x2 < (I 5 (Int32.toNatClampNeg x1)) then (
            (zU_letterAt_4 x1 x2 I).bind fun q4 =>
            some (.inl q4, q1.2)) else (
            zO_letter_37 I q1.2)) else none)) else (
      if iq_in x1 14 then (
        some (.inl (I 5 (Int32.toNatClampNeg x1)), q1.2)) else none)) (fun k3 => some (.inr k3, q1.2))
def zL_letter (x1 : Int32) (x2 : Int32) (I : iq_I) (J : iq_J) (X : iq_X) : Option (Int32 × iq_J × iq_X) :=
  (zO_letter x1 x2 I X).bind fun q1 =>
  iq_sm q1.1 (fun a2 =>
    ir_let (iq_upJ J 114 0 (Int32.toInt64 a2)) fun J4 =>
    some ((0 : Int32), J4, q1.2)) (fun k3 => if k3 = 0 then (
    some ((1 : Int32), J, q1.2)) else (
  if k3 = 1 then (
    none) else none))
def zM_letter_34 (x1 : Int32) (x2 : Int32) (s1 : Int32) (I : iq_I) : Option (Int32 × iq_I) :=
  (zM_right s1 (1 : Int32) I).bind fun q3 =>
  if ¬ q3.1 = 0 then (
    if ¬ x2 = (-1 : Int32) then (
      if iq_in (((9 : Int32) * x1) + x2) 126 then (
        some ((q3.2 77 (Int32.toNatClampNeg (((9 : Int32) * x1) + x2))), q3.2)) else none) else (
      if iq_in x1 14 then (
        some ((q3.2 78 (Int32.toNatClampNeg x1)), q3.2)) else none)) else (
    some ((0 : Int32), q3.2))
def zM_letter_33 (x1 : Int32) (x2 : Int32) (I : iq_I) : Option (Int32 × iq_I) :=
  zM_letter_34 x1 x2 (0 : Int32) I
def zM_letter (x1 : Int32) (x2 : Int32) (I : iq_I) : Option (Int32 × iq_I) :=
  ir_let (iq_upI I 76 0 (0 : Int32)) fun I1 =>
  (zM_isWord x1 I1).bind fun q2 =>
  if q2.1 = 0 then (
    some ((0 : Int32), q2.2)) else (
    if x2 < (-1 : Int32) then (
      zM_letter_33 x1 x2 q2.2) else (
      if iq_in x1 14 then (
        if (q2.2 78 (Int32.toNatClampNeg x1)) ≤ x2 then (
          zM_letter_33 x1 x2 q2.2) else (
          zM_letter_34 x1 x2 (1 : Int32) q2.2)) else none))
def zG_longest_l4_b  (I : iq_I) (x1 : Int32) (x2 : Int32)  : Option ((Int32 × Int32) ⊕ (Int32)) :=
  if (I 16 0) ≤ x2 then (
    some (.inr x1)) else (
    (zG_lengthOf_16 x2 I).bind fun q1 =>
    some (.inl ((ir_max x1 q1), (x2 + (1 : Int32)))))
def zG_longest_l4  (I : iq_I) (n : Nat) (v : Int32 × Int32) : Option (Int32) := iq_lp (fun v => zG_longest_l4_b I v.1 v.2) n v
def zG_longest  (I : iq_I) : Option (Int32) :=
  (zG_longest_l4 I ir_F ((0 : Int32), (0 : Int32))).bind fun w2 =>
  some w2
def zW_countBroken_l4_b  (I : iq_I) (x2 : Int32) (x3 : Int32)  : Option ((Int32 × Int32) ⊕ (Int32)) :=
  if (I 16 0) ≤ x3 then (
    some (.inr x2)) else (
    (zU_stateOf_4_16 x3 I).bind fun q1 =>
    if ¬ q1 = (-1 : Int32) then (
      some (.inl (x2, (x3 + (1 : Int32))))) else (
      some (.inl ((x2 + (1 : Int32)), (x3 + (1 : Int32))))))
def zW_countBroken_l4  (I : iq_I) (n : Nat) (v : Int32 × Int32) : Option (Int32) := iq_lp (fun v => zW_countBroken_l4_b I v.1 v.2) n v
def zW_countBroken  (I : iq_I) : Option (Int32) :=
  (zW_countBroken_l4 I ir_F ((0 : Int32), (0 : Int32))).bind fun w2 =>
  some w2
def zO_count_151  (I : iq_I) (X : iq_X) : Option ((Int32 ⊕ Nat) × iq_X) :=
  some (.inl (I 3 0), X)
def zO_count_158  (I : iq_I) (X : iq_X) : Option ((Int32 ⊕ Nat) × iq_X) :=
  some (.inl (I 3 1), X)
def zO_count_165  (I : iq_I) (X : iq_X) : Option ((Int32 ⊕ Nat) × iq_X) :=
  some (.inl (I 3 2), X)
def zO_count_172  (I : iq_I) (X : iq_X) : Option ((Int32 ⊕ Nat) × iq_X) :=
  (zW_countBroken I).bind fun q1 =>
  some (.inl q1, X)
def zO_count_192  (I : iq_I) (X : iq_X) : Option ((Int32 ⊕ Nat) × iq_X) :=
  (zG_longest I).bind fun q2 =>
  some (.inl q2, X)
def zO_count_200  (I : iq_I) (X : iq_X) : Option ((Int32 ⊕ Nat) × iq_X) :=
  some (.inr 0, (ir_xx X))
def zO_count (x1 : Int32) (I : iq_I) (X : iq_X) : Option ((Int32 ⊕ Nat) × iq_X) :=
  if x1 = (0 : Int32) then (
    some (.inl (I 4 0), X)) else (
  if x1 = (1 : Int32) then (
    some (.inl (I 4 2), X)) else (
  if x1 = (2 : Int32) then (
    some (.inl (I 4 3), X)) else (
  if x1 = (3 : Int32) then (
    some (.inl (I 16 0), X)) else (
  if x1 = (4 : Int32) then (
    some (.inl (I 8 0), X)) else (
  if x1 = (5 : Int32) then (
    some (.inl (I 16 1), X)) else (
  if x1 = (6 : Int32) then (
    some (.inl (I 19 0), X)) else (
  if x1 = (7 : Int32) then (
    some (.inl (I 16 2), X)) else (
  if x1 = (8 : Int32) then (
    some (.inl (I 1 11), X)) else (
  if x1 = (9 : Int32) then (
    zO_count_151 I X) else (
  if x1 = (10 : Int32) then (
    zO_count_158 I X) else (
  if x1 = (11 : Int32) then (
    zO_count_165 I X) else (
  if x1 = (12 : Int32) then (
    zO_count_172 I X) else (
  if x1 = (13 : Int32) then (
    some (.inl (I 4 1), X)) else (
  if x1 = (14 : Int32) then (
    zO_count_192 I X) else (
  zO_count_200 I X)))))))))))))))
def zL_count (x1 : Int32) (I : iq_I) (J : iq_J) (X : iq_X) : Option (Int32 × iq_J × iq_X) :=
  (zO_count x1 I X).bind fun q1 =>
  iq_sm q1.1 (fun a2 =>
    ir_let (iq_upJ J 114 0 (Int32.toInt64 a2)) fun J4 =>
    some ((0 : Int32), J4, q1.2)) (fun k3 => if k3 = 0 then (
    some ((1 : Int32), J, q1.2)) else (
  if k3 = 1 then (
    none) else none))
def zM_longestOf_l4_b  (I : iq_I) (x1 : Int32) (x2 : Int32)  : Option ((Int32 × Int32) ⊕ (Int32)) :=
  if (I 76 5) ≤ x2 then (
    some (.inr x1)) else (
    if iq_in x2 206 then (
      if (I 98 (Int32.toNatClampNeg x2)) ≤ x1 then (
        some (.inl (x1, (x2 + (1 : Int32))))) else (
        if iq_in x2 206 then (
          some (.inl ((I 98 (Int32.toNatClampNeg x2)), (x2 + (1 : Int32))))) else none)) else none)
def zM_longestOf_l4  (I : iq_I) (n : Nat) (v : Int32 × Int32) : Option (Int32) := iq_lp (fun v => zM_longestOf_l4_b I v.1 v.2) n v
def zM_longestOf  (I : iq_I) : Option (Int32) :=
  (zM_longestOf_l4 I ir_F ((0 : Int32), (0 : Int32))).bind fun w1 =>
  some w1
def zM_broken_l4_b  (I : iq_I) (x1 : Int32) (x2 : Int32)  : Option ((Int32 × Int32) ⊕ (Int32)) :=
  if (I 76 5) ≤ x2 then (
    some (.inr x1)) else (
    (zM_stateNow_76_98 x2 I).bind fun q1 =>
    if ¬ q1 = (-1 : Int32) then (
      some (.inl ((x1 + (0 : Int32)), (x2 + (1 : Int32))))) else (
      some (.inl ((x1 + (1 : Int32)), (x2 + (1 : Int32))))))
def zM_broken_l4  (I : iq_I) (n : Nat) (v : Int32 × Int32) : Option (Int32) := iq_lp (fun v => zM_broken_l4_b I v.1 v.2) n v
def zM_broken  (I : iq_I) : Option (Int32) :=
  (zM_broken_l4 I ir_F ((0 : Int32), (0 : Int32))).bind fun w2 =>
  some w2
def zM_count_131  (I : iq_I) : Option (Int32 × iq_I) :=
  some ((I 98 5), I)
def zM_count_158 (x1 : Int32) (I : iq_I) : Option (Int32 × iq_I) :=
  if iq_in (x1 - (9 : Int32)) 3 then (
    some ((I 86 (Int32.toNatClampNeg (x1 - (9 : Int32)))), I)) else none
def zM_count_153  (I : iq_I) : Option (Int32 × iq_I) :=
  (zM_broken I).bind fun q4 =>
  some (q4, I)
def zM_count_101  (I : iq_I) : Option (Int32 × iq_I) :=
  (zM_longestOf I).bind fun q5 =>
  some (q5, I)
def zM_count (x1 : Int32) (I : iq_I) : Option (Int32 × iq_I) :=
  ir_let (iq_upI I 76 0 (0 : Int32)) fun I1 =>
  (zM_within x1 (0 : Int32) (14 : Int32) I1).bind fun q2 =>
  (zM_right q2 (1 : Int32) I1).bind fun q3 =>
  if ¬ q3.1 = 0 then (
    if x1 = (0 : Int32) then (
      some ((q3.2 76 1), q3.2)) else (
    if x1 = (1 : Int32) then (
      some ((q3.2 76 2), q3.2)) else (
    if x1 = (2 : Int32) then (
      some ((q3.2 76 3), q3.2)) else (
    if x1 = (3 : Int32) then (
      some ((q3.2 76 5), q3.2)) else (
    if x1 = (4 : Int32) then (
      some ((q3.2 76 4), q3.2)) else (
    if x1 = (5 : Int32) then (
      zM_count_131 q3.2) else (
    if x1 = (6 : Int32) then (
      some ((q3.2 76 54), q3.2)) else (
    if x1 = (7 : Int32) then (
      some ((q3.2 76 63), q3.2)) else (
    if x1 = (8 : Int32) then (
      some ((q3.2 76 17), q3.2)) else (
    if x1 = (9 : Int32) then (
      zM_count_158 x1 q3.2) else (
    if x1 = (10 : Int32) then (
      zM_count_158 x1 q3.2) else (
    if x1 = (11 : Int32) then (
      zM_count_158 x1 q3.2) else (
    if x1 = (12 : Int32) then (
      zM_count_153 q3.2) else (
    if x1 = (13 : Int32) then (
      some ((q3.2 76 7), q3.2)) else (
    if x1 = (14 : Int32) then (
      zM_count_101 q3.2) else (
    zM_count_158 x1 q3.2)))))))))))))))) else (
    some ((0 : Int32), q3.2))
def zO_fault  (I : iq_I) : Option (Int32) :=
  some (I 1 12)
def zM_fault  (I : iq_I) : Option (Int32 × iq_I) :=
  ir_let (iq_upI I 76 0 (0 : Int32)) fun I1 =>
  some ((I1 76 19), I1)
def zS_J7_fill_53178_41_l5_b (x1 : Int32) (x3 : Int32)  (x2 : Int32) (I : iq_I) : Option ((Int32 × iq_I) ⊕ (iq_I)) :=
  if x3 ≤ x2 then (
    some (.inr I)) else (
    if iq_in x2 8 then (
      ir_let (iq_upI I 41 (Int32.toNatClampNeg x2) x1) fun I1 =>
      some (.inl ((x2 + (1 : Int32)), I1))) else none)
def zS_J7_fill_53178_41_l5 (x1 : Int32) (x3 : Int32)  (n : Nat) (v : Int32 × iq_I) : Option (iq_I) := iq_lp (fun v => zS_J7_fill_53178_41_l5_b x1 x3 v.1 v.2) n v
def zS_J7_fill_53178_41 (x1 : Int32) (I : iq_I) : Option (iq_I) :=
  (zS_J7_fill_53178_41_l5 x1 (8 : Int32) ir_F ((0 : Int32), I)).bind fun w2 =>
  some w2
def zS_J7_fill_53178_48_l5_b (x1 : Int32) (x3 : Int32)  (x2 : Int32) (I : iq_I) : Option ((Int32 × iq_I) ⊕ (iq_I)) :=
  if x3 ≤ x2 then (
    some (.inr I)) else (
    if iq_in x2 80 then (
      ir_let (iq_upI I 48 (Int32.toNatClampNeg x2) x1) fun I1 =>
      some (.inl ((x2 + (1 : Int32)), I1))) else none)
def zS_J7_fill_53178_48_l5 (x1 : Int32) (x3 : Int32)  (n : Nat) (v : Int32 × iq_I) : Option (iq_I) := iq_lp (fun v => zS_J7_fill_53178_48_l5_b x1 x3 v.1 v.2) n v
def zS_J7_fill_53178_48 (x1 : Int32) (I : iq_I) : Option (iq_I) :=
  (zS_J7_fill_53178_48_l5 x1 (80 : Int32) ir_F ((0 : Int32), I)).bind fun w2 =>
  some w2
def zS_J7_fill_53178_49_l5_b (x1 : Int32) (x3 : Int32)  (x2 : Int32) (I : iq_I) : Option ((Int32 × iq_I) ⊕ (iq_I)) :=
  if x3 ≤ x2 then (
    some (.inr I)) else (
    if iq_in x2 8 then (
      ir_let (iq_upI I 49 (Int32.toNatClampNeg x2) x1) fun I1 =>
      some (.inl ((x2 + (1 : Int32)), I1))) else none)
def zS_J7_fill_53178_49_l5 (x1 : Int32) (x3 : Int32)  (n : Nat) (v : Int32 × iq_I) : Option (iq_I) := iq_lp (fun v => zS_J7_fill_53178_49_l5_b x1 x3 v.1 v.2) n v
def zS_J7_fill_53178_49 (x1 : Int32) (I : iq_I) : Option (iq_I) :=
  (zS_J7_fill_53178_49_l5 x1 (8 : Int32) ir_F ((0 : Int32), I)).bind fun w2 =>
  some w2
