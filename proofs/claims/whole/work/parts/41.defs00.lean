/-! ===== the methods as pure functions (printed by wip/whole/emitall.py, split.py) ===== -/
def zA_copyFrom_19_30  (I : iq_I) : Option (iq_I) :=
  ir_let (iq_upI I 19 0 (I 30 0)) fun I1 =>
  ir_let (iq_cpI I1 31 20 0 0 40) fun I2 =>
  ir_let (iq_cpI I2 32 21 0 0 40) fun I3 =>
  ir_let (iq_cpI I3 33 22 0 0 40) fun I4 =>
  ir_let (iq_cpI I4 34 23 0 0 40) fun I5 =>
  some I5
def zG_copyFrom_16_27  (I : iq_I) : Option (iq_I) :=
  ir_let (iq_upI I 16 0 (I 27 0)) fun I1 =>
  ir_let (iq_upI I1 16 1 (I1 27 1)) fun I2 =>
  ir_let (iq_upI I2 16 2 (I2 27 2)) fun I3 =>
  ir_let (iq_cpI I3 28 17 0 0 5) fun I4 =>
  ir_let (iq_cpI I4 29 18 0 0 5) fun I5 =>
  ir_let (iq_cpI I5 35 24 0 0 200) fun I6 =>
  ir_let (iq_cpI I6 36 25 0 0 3) fun I7 =>
  ir_let (iq_cpI I7 37 26 0 0 3) fun I8 =>
  (zA_copyFrom_19_30 I8).bind fun q9 =>
  some q9
def zO_restore  (I : iq_I) : Option (Int32 × iq_I) :=
  if ¬ (I 1 13) = 0 then (
    (zG_copyFrom_16_27 I).bind fun q1 =>
    some ((1 : Int32), q1)) else (
    some ((0 : Int32), I))
def zM_copies_76_111_98_l2_b   (x3 : Int32) (I : iq_I) : Option ((Int32 × iq_I) ⊕ (iq_I)) :=
  if (206 : Int32) ≤ x3 then (
    some (.inr I)) else (
    if iq_in x3 206 then (
      if iq_in x3 206 then (
        ir_let (iq_upI I 98 (Int32.toNatClampNeg x3) (I 111 (Int32.toNatClampNeg x3))) fun I1 =>
        some (.inl ((x3 + (1 : Int32)), I1))) else none) else none)
def zM_copies_76_111_98_l2   (n : Nat) (v : Int32 × iq_I) : Option (iq_I) := iq_lp (fun v => zM_copies_76_111_98_l2_b  v.1 v.2) n v
def zM_copies_76_111_98  (I : iq_I) : Option (iq_I) :=
  (zM_copies_76_111_98_l2  ir_F ((0 : Int32), I)).bind fun w2 =>
  some w2
def zM_copies_76_112_100_l2_b   (x3 : Int32) (I : iq_I) : Option ((Int32 × iq_I) ⊕ (iq_I)) :=
  if (8240 : Int32) ≤ x3 then (
    some (.inr I)) else (
    if iq_in x3 8240 then (
      if iq_in x3 8240 then (
        ir_let (iq_upI I 100 (Int32.toNatClampNeg x3) (I 112 (Int32.toNatClampNeg x3))) fun I1 =>
        some (.inl ((x3 + (1 : Int32)), I1))) else none) else none)
def zM_copies_76_112_100_l2   (n : Nat) (v : Int32 × iq_I) : Option (iq_I) := iq_lp (fun v => zM_copies_76_112_100_l2_b  v.1 v.2) n v
def zM_copies_76_112_100  (I : iq_I) : Option (iq_I) :=
  (zM_copies_76_112_100_l2  ir_F ((0 : Int32), I)).bind fun w2 =>
  some w2
def zM_copies_76_113_108_l2_b   (x3 : Int32) (I : iq_I) : Option ((Int32 × iq_I) ⊕ (iq_I)) :=
  if (6 : Int32) ≤ x3 then (
    some (.inr I)) else (
    if iq_in x3 6 then (
      if iq_in x3 6 then (
        ir_let (iq_upI I 108 (Int32.toNatClampNeg x3) (I 113 (Int32.toNatClampNeg x3))) fun I1 =>
        some (.inl ((x3 + (1 : Int32)), I1))) else none) else none)
def zM_copies_76_113_108_l2   (n : Nat) (v : Int32 × iq_I) : Option (iq_I) := iq_lp (fun v => zM_copies_76_113_108_l2_b  v.1 v.2) n v
def zM_copies_76_113_108  (I : iq_I) : Option (iq_I) :=
  (zM_copies_76_113_108_l2  ir_F ((0 : Int32), I)).bind fun w2 =>
  some w2
def zM_restore  (I : iq_I) : Option (Int32 × iq_I) :=
  ir_let (iq_upI I 76 0 (0 : Int32)) fun I1 =>
  if ¬ (I1 76 68) = 0 then (
    ir_let (iq_upI I1 76 54 (I1 76 69)) fun I2 =>
    ir_let (iq_upI I2 76 63 (I2 76 70)) fun I3 =>
    (zM_copies_76_111_98 I3).bind fun q4 =>
    (zM_copies_76_112_100 q4).bind fun q5 =>
    (zM_copies_76_113_108 q5).bind fun q6 =>
    some ((1 : Int32), q6)) else (
    some ((0 : Int32), I1))
def zA_copyFrom_30_19  (I : iq_I) : Option (iq_I) :=
  ir_let (iq_upI I 30 0 (I 19 0)) fun I1 =>
  ir_let (iq_cpI I1 20 31 0 0 40) fun I2 =>
  ir_let (iq_cpI I2 21 32 0 0 40) fun I3 =>
  ir_let (iq_cpI I3 22 33 0 0 40) fun I4 =>
  ir_let (iq_cpI I4 23 34 0 0 40) fun I5 =>
  some I5
def zG_copyFrom_27_16  (I : iq_I) : Option (iq_I) :=
  ir_let (iq_upI I 27 0 (I 16 0)) fun I1 =>
  ir_let (iq_upI I1 27 1 (I1 16 1)) fun I2 =>
  ir_let (iq_upI I2 27 2 (I2 16 2)) fun I3 =>
  ir_let (iq_cpI I3 17 28 0 0 5) fun I4 =>
  ir_let (iq_cpI I4 18 29 0 0 5) fun I5 =>
  ir_let (iq_cpI I5 24 35 0 0 200) fun I6 =>
  ir_let (iq_cpI I6 25 36 0 0 3) fun I7 =>
  ir_let (iq_cpI I7 26 37 0 0 3) fun I8 =>
  (zA_copyFrom_30_19 I8).bind fun q9 =>
  some q9
def zO_image  (I : iq_I) : Option (iq_I) :=
  (zG_copyFrom_27_16 I).bind fun q1 =>
  ir_let (iq_upI q1 1 13 (1 : Int32)) fun I2 =>
  some I2
def zM_copies_76_98_111_l2_b   (x3 : Int32) (I : iq_I) : Option ((Int32 × iq_I) ⊕ (iq_I)) :=
  if (206 : Int32) ≤ x3 then (
    some (.inr I)) else (
    if iq_in x3 206 then (
      if iq_in x3 206 then (
        ir_let (iq_upI I 111 (Int32.toNatClampNeg x3) (I 98 (Int32.toNatClampNeg x3))) fun I1 =>
        some (.inl ((x3 + (1 : Int32)), I1))) else none) else none)
def zM_copies_76_98_111_l2   (n : Nat) (v : Int32 × iq_I) : Option (iq_I) := iq_lp (fun v => zM_copies_76_98_111_l2_b  v.1 v.2) n v
def zM_copies_76_98_111  (I : iq_I) : Option (iq_I) :=
  (zM_copies_76_98_111_l2  ir_F ((0 : Int32), I)).bind fun w2 =>
  some w2
def zM_copies_76_100_112_l2_b   (x3 : Int32) (I : iq_I) : Option ((Int32 × iq_I) ⊕ (iq_I)) :=
  if (8240 : Int32) ≤ x3 then (
    some (.inr I)) else (
    if iq_in x3 8240 then (
      if iq_in x3 8240 then (
        ir_let (iq_upI I 112 (Int32.toNatClampNeg x3) (I 100 (Int32.toNatClampNeg x3))) fun I1 =>
        some (.inl ((x3 + (1 : Int32)), I1))) else none) else none)
def zM_copies_76_100_112_l2   (n : Nat) (v : Int32 × iq_I) : Option (iq_I) := iq_lp (fun v => zM_copies_76_100_112_l2_b  v.1 v.2) n v
def zM_copies_76_100_112  (I : iq_I) : Option (iq_I) :=
  (zM_copies_76_100_112_l2  ir_F ((0 : Int32), I)).bind fun w2 =>
  some w2
def zM_copies_76_108_113_l2_b   (x3 : Int32) (I : iq_I) : Option ((Int32 × iq_I) ⊕ (iq_I)) :=
  if (6 : Int32) ≤ x3 then (
    some (.inr I)) else (
    if iq_in x3 6 then (
      if iq_in x3 6 then (
        ir_let (iq_upI I 113 (Int32.toNatClampNeg x3) (I 108 (Int32.toNatClampNeg x3))) fun I1 =>
        some (.inl ((x3 + (1 : Int32)), I1))) else none) else none)
def zM_copies_76_108_113_l2   (n : Nat) (v : Int32 × iq_I) : Option (iq_I) := iq_lp (fun v => zM_copies_76_108_113_l2_b  v.1 v.2) n v
def zM_copies_76_108_113  (I : iq_I) : Option (iq_I) :=
  (zM_copies_76_108_113_l2  ir_F ((0 : Int32), I)).bind fun w2 =>
  some w2
def zM_image  (I : iq_I) : Option (iq_I) :=
  ir_let (iq_upI I 76 0 (0 : Int32)) fun I1 =>
  ir_let (iq_upI I1 76 68 (1 : Int32)) fun I2 =>
  ir_let (iq_upI I2 76 69 (I2 76 54)) fun I3 =>
  ir_let (iq_upI I3 76 70 (I3 76 63)) fun I4 =>
  (zM_copies_76_98_111 I4).bind fun q5 =>
  (zM_copies_76_100_112 q5).bind fun q6 =>
  (zM_copies_76_108_113 q6).bind fun q7 =>
  some q7
def zO_needSaying_15  (I : iq_I) (X : iq_X) : Option ((Unit ⊕ Nat) × iq_X) :=
  some (.inr 0, (ir_xx X))
def zO_needSaying (x1 : Int32) (I : iq_I) (X : iq_X) : Option ((Unit ⊕ Nat) × iq_X) :=
  if x1 < 0 then (
    zO_needSaying_15 I X) else (
    if x1 < (I 16 0) then (
      some (.inl (), X)) else (
      zO_needSaying_15 I X))
def zG_wordAt_16 (x1 : Int32) (x2 : Int32) (I : iq_I) : Option (Int32) :=
  if x1 < 0 then (
    some (-1 : Int32)) else (
    if (I 16 0) ≤ x1 then (
      some (-1 : Int32)) else (
      if x2 < 0 then (
        some (-1 : Int32)) else (
        if iq_in x1 5 then (
          if x2 < (I 18 (Int32.toNatClampNeg x1)) then (
            if iq_in ((x1 * (40 : Int32)) + x2) 200 then (
              some (I 24 (Int32.toNatClampNeg ((x1 * (40 : Int32)) + x2)))) else none) else (
            some (-1 : Int32))) else none)))
def zU_kindOf (x1 : Int32) (I : iq_I) : Option (Int32) :=
  if x1 < 0 then (
    some (-1 : Int32)) else (
    if x1 < (I 4 2) then (
      if iq_in x1 14 then (
        some (I 6 (Int32.toNatClampNeg x1))) else none) else (
      some (-1 : Int32)))
def zU_priceOf (x1 : Int32) (I : iq_I) : Option (Int32) :=
  if x1 < 0 then (
    some (0 : Int32)) else (
    if x1 < (8 : Int32) then (
      if iq_in x1 8 then (
        some (I 15 (Int32.toNatClampNeg x1))) else none) else (
      some (0 : Int32)))
def zO_cost_l9_b (x1 : Int32) (I : iq_I) (X : iq_X) (x2 : Int32) (x3 : Int32)  : Option ((Int32 × Int32) ⊕ (Int32)) :=
  if iq_in x1 5 then (
    if (I 18 (Int32.toNatClampNeg x1)) ≤ x3 then (
      some (.inr x2)) else (
      (zG_wordAt_16 x1 x3 I).bind fun q4 =>
      (zU_kindOf q4 I).bind fun q5 =>
      (zU_priceOf q5 I).bind fun q6 =>
      some (.inl ((x2 + q6), (x3 + (1 : Int32)))))) else none
def zO_cost_l9 (x1 : Int32) (I : iq_I) (X : iq_X) (n : Nat) (v : Int32 × Int32) : Option (Int32) := iq_lp (fun v => zO_cost_l9_b x1 I X v.1 v.2) n v
def zO_cost (x1 : Int32) (I : iq_I) (X : iq_X) : Option ((Int32 ⊕ Nat) × iq_X) :=
  (zO_needSaying x1 I X).bind fun q1 =>
  iq_sm q1.1 (fun a2 =>
    (zO_cost_l9 x1 I q1.2 ir_F ((0 : Int32), (0 : Int32))).bind fun w7 =>
    some (.inl w7, q1.2)) (fun k3 => some (.inr k3, q1.2))
def zL_cost (x1 : Int32) (I : iq_I) (J : iq_J) (X : iq_X) : Option (Int32 × iq_J × iq_X) :=
  (zO_cost x1 I X).bind fun q1 =>
  iq_sm q1.1 (fun a2 =>
    ir_let (iq_upJ J 114 0 (Int32.toInt64 a2)) fun J4 =>
    some ((0 : Int32), J4, q1.2)) (fun k3 => if k3 = 0 then (
    some ((1 : Int32), J, q1.2)) else (
  if k3 = 1 then (
    none) else none))
def zM_right_16  (I : iq_I) : Option (Int32 × iq_I) :=
  if ¬ (I 76 0) = 0 then (
    some ((0 : Int32), I)) else (
    some ((1 : Int32), I))
def zM_right (x1 : Int32) (x2 : Int32) (I : iq_I) : Option (Int32 × iq_I) :=
  if ¬ (I 76 0) = 0 then (
    zM_right_16 I) else (
    if ¬ x1 = 0 then (
      zM_right_16 I) else (
      ir_let (iq_upI I 76 0 x2) fun I1 =>
      zM_right_16 I1))
def zM_isSaying_18 (s1 : Int32) (I : iq_I) : Option (Int32 × iq_I) :=
  (zM_right s1 (1 : Int32) I).bind fun q1 =>
  if q1.1 = 0 ∨ q1.1 = 1 then some (q1.1, q1.2) else none
def zM_isSaying_17  (I : iq_I) : Option (Int32 × iq_I) :=
  zM_isSaying_18 (0 : Int32) I
def zM_isSaying (x1 : Int32) (I : iq_I) : Option (Int32 × iq_I) :=
  if x1 < 0 then (
    zM_isSaying_17 I) else (
    if (I 76 5) ≤ x1 then (
      zM_isSaying_17 I) else (
      zM_isSaying_18 (1 : Int32) I))
def zM_wordAt_76_98 (x2 : Int32) (x3 : Int32) (I : iq_I) : Option (Int32) :=
  if iq_in (((6 : Int32) + ((40 : Int32) * x2)) + x3) 206 then (
    some (I 98 (Int32.toNatClampNeg (((6 : Int32) + ((40 : Int32) * x2)) + x3)))) else none
def zM_cost_l19_b (x1 : Int32) (I : iq_I) (x2 : Int32) (x3 : Int32)  : Option ((Int32 × Int32) ⊕ (Int32)) :=
  if iq_in x1 206 then (
    if (I 98 (Int32.toNatClampNeg x1)) ≤ x3 then (
      some (.inr x2)) else (
      (zM_wordAt_76_98 x1 x3 I).bind fun q3 =>
      if iq_in q3 14 then (
        if iq_in (I 79 (Int32.toNatClampNeg q3)) 8 then (
          some (.inl ((x2 + (I 81 (Int32.toNatClampNeg (I 79 (Int32.toNatClampNeg q3))))), (x3 + (1 : Int32))))) else none) else none)) else none
def zM_cost_l19 (x1 : Int32) (I : iq_I) (n : Nat) (v : Int32 × Int32) : Option (Int32) := iq_lp (fun v => zM_cost_l19_b x1 I v.1 v.2) n v
def zM_cost (x1 : Int32) (I : iq_I) : Option (Int32 × iq_I) :=
  ir_let (iq_upI I 76 0 (0 : Int32)) fun I1 =>
  (zM_isSaying x1 I1).bind fun q2 =>
  if ¬ q2.1 = 0 then (
    (zM_cost_l19 x1 q2.2 ir_F ((0 : Int32), (0 : Int32))).bind fun w4 =>
    some (w4, q2.2)) else (
    some ((0 : Int32), q2.2))
def zM_thrown  (I : iq_I) : Option (Int32) :=
  some (I 76 0)
def zO_needKind_10  (I : iq_I) (X : iq_X) : Option ((Unit ⊕ Nat) × iq_X) :=
  some (.inr 0, (ir_xx X))
def zO_needKind (x1 : Int32) (I : iq_I) (X : iq_X) : Option ((Unit ⊕ Nat) × iq_X) :=
  if x1 < 0 then (
    zO_needKind_10 I X) else (
    if x1 < (8 : Int32) then (
      some (.inl (), X)) else (
      zO_needKind_10 I X))
def zO_often_l15_b (x1 : Int32) (x2 : Int32) (I : iq_I) (X : iq_X) (x3 : Int32) (x4 : Int32)  : Option ((Int32 × Int32) ⊕ (Int32)) :=
  if iq_in x1 5 then (
    if (I 18 (Int32.toNatClampNeg x1)) ≤ x4 then (
      some (.inr x3)) else (
      (zG_wordAt_16 x1 x4 I).bind fun q7 =>
      (zU_kindOf q7 I).bind fun q8 =>
      if ¬ q8 = x2 then (
        some (.inl (x3, (x4 + (1 : Int32))))) else (
        some (.inl ((x3 + (1 : Int32)), (x4 + (1 : Int32))))))) else none
def zO_often_l15 (x1 : Int32) (x2 : Int32) (I : iq_I) (X : iq_X) (n : Nat) (v : Int32 × Int32) : Option (Int32) := iq_lp (fun v => zO_often_l15_b x1 x2 I X v.1 v.2) n v
def zO_often (x1 : Int32) (x2 : Int32) (I : iq_I) (X : iq_X) : Option ((Int32 ⊕ Nat) × iq_X) :=
  (zO_needSaying x1 I X).bind fun q1 =>
  iq_sm q1.1 (fun a2 =>
    (zO_needKind x2 I q1.2).bind fun q4 =>
    iq_sm q4.1 (fun a5 =>
      (zO_often_l15 x1 x2 I q4.2 ir_F ((0 : Int32), (0 : Int32))).bind fun w9 =>
      some (.inl w9, q4.2)) (fun k6 => some (.inr k6, q4.2))) (fun k3 => some (.inr k3, q1.2))
def zL_often (x1 : Int32) (x2 : Int32) (I : iq_I) (J : iq_J) (X : iq_X) : Option (Int32 × iq_J × iq_X) :=
  (zO_often x1 x2 I X).bind fun q1 =>
  iq_sm q1.1 (fun a2 =>
    ir_let (iq_upJ J 114 0 (Int32.toInt64 a2)) fun J4 =>
    some ((0 : Int32), J4, q1.2)) (fun k3 => if k3 = 0 then (
    some ((1 : Int32), J, q1.2)) else (
  if k3 = 1 then (
    none) else none))
def zM_within (x0 : Int32) (x1 : Int32) (x2 : Int32) (I : iq_I) : Option (Int32) :=
  if x0 < x1 then (
    some (0 : Int32)) else (
    if x2 < x0 then (
      some (0 : Int32)) else (
      some (1 : Int32)))
def zM_isWhat (x1 : Int32) (x2 : Int32) (I : iq_I) : Option (Int32 × iq_I) :=
  (zM_within x1 (0 : Int32) x2 I).bind fun q1 =>
  (zM_right q1 (1 : Int32) I).bind fun q2 =>
  if q2.1 = 0 ∨ q2.1 = 1 then some (q2.1, q2.2) else none
def zM_often_l30_b (x1 : Int32) (x2 : Int32) (I : iq_I) (x3 : Int32) (x4 : Int32)  : Option ((Int32 × Int32) ⊕ (Int32)) :=
  if iq_in x1 206 then (
    if (I 98 (Int32.toNatClampNeg x1)) ≤ x4 then (
      some (.inr x3)) else (
      (zM_wordAt_76_98 x1 x4 I).bind fun q4 =>
      if iq_in q4 14 then (
        if ¬ (I 79 (Int32.toNatClampNeg q4)) = x2 then (
          some (.inl ((x3 + (0 : Int32)), (x4 + (1 : Int32))))) else (
          some (.inl ((x3 + (1 : Int32)), (x4 + (1 : Int32)))))) else none)) else none
def zM_often_l30 (x1 : Int32) (x2 : Int32) (I : iq_I) (n : Nat) (v : Int32 × Int32) : Option (Int32) := iq_lp (fun v => zM_often_l30_b x1 x2 I v.1 v.2) n v
def zM_often (x1 : Int32) (x2 : Int32) (I : iq_I) : Option (Int32 × iq_I) :=
  ir_let (iq_upI I 76 0 (0 : Int32)) fun I1 =>
  (zM_isSaying x1 I1).bind fun q2 =>
  if q2.1 = 0 then (
    some ((0 : Int32), q2.2)) else (
    (zM_isWhat x2 (7 : Int32) q2.2).bind fun q3 =>
    if ¬ q3.1 = 0 then (
      (zM_often_l30 x1 x2 q3.2 ir_F ((0 : Int32), (0 : Int32))).bind fun w5 =>
      some (w5, q3.2)) else (
      some ((0 : Int32), q3.2)))
def zO_needWord_15  (I : iq_I) (X : iq_X) : Option ((Unit ⊕ Nat) × iq_X) :=
  some (.inr 0, (ir_xx X))
def zO_needWord (x1 : Int32) (I : iq_I) (X : iq_X) : Option ((Unit ⊕ Nat) × iq_X) :=
  if x1 < 0 then (
    zO_needWord_15 I X) else (
    if x1 < (I 4 2) then (
      some (.inl (), X)) else (
      zO_needWord_15 I X))
def zG_timesIn_16_l19_b (x1 : Int32) (x2 : Int32) (I : iq_I) (x3 : Int32) (x4 : Int32)  : Option ((Int32 × Int32) ⊕ (Int32)) :=
  if iq_in x1 5 then (
    if (I 18 (Int32.toNatClampNeg x1)) ≤ x4 then (
      some (.inr x3)) else (
      if iq_in ((x1 * (40 : Int32)) + x4) 200 then (
        if ¬ (I 24 (Int32.toNatClampNeg ((x1 * (40 : Int32)) + x4))) = x2 then (
          some (.inl (x3, (x4 + (1 : Int32))))) else (
          some (.inl ((x3 + (1 : Int32)), (x4 + (1 : Int32)))))) else none)) else none
def zG_timesIn_16_l19 (x1 : Int32) (x2 : Int32) (I : iq_I) (n : Nat) (v : Int32 × Int32) : Option (Int32) := iq_lp (fun v => zG_timesIn_16_l19_b x1 x2 I v.1 v.2) n v
def zG_timesIn_16 (x1 : Int32) (x2 : Int32) (I : iq_I) : Option (Int32) :=
  if x1 < 0 then (
    some (0 : Int32)) else (
    if x1 < (I 16 0) then (
      (zG_timesIn_16_l19 x1 x2 I ir_F ((0 : Int32), (0 : Int32))).bind fun w1 =>
      some w1) else (
      some (0 : Int32)))
def zO_about_l9_b (x1 : Int32) (I : iq_I) (X : iq_X) (x2 : Int32) (x3 : Int32)  : Option ((Int32 × Int32) ⊕ (Int32)) :=
  if (I 16 0) ≤ x3 then (
    some (.inr x2)) else (
    (zG_timesIn_16 x3 x1 I).bind fun q4 =>
    if q4 ≤ 0 then (
      some (.inl (x2, (x3 + (1 : Int32))))) else (
      some (.inl ((x2 ||| ((1 : Int32) <<< (x3 &&& 31))), (x3 + (1 : Int32))))))
def zO_about_l9 (x1 : Int32) (I : iq_I) (X : iq_X) (n : Nat) (v : Int32 × Int32) : Option (Int32) := iq_lp (fun v => zO_about_l9_b x1 I X v.1 v.2) n v
def zO_about (x1 : Int32) (I : iq_I) (X : iq_X) : Option ((Int32 ⊕ Nat) × iq_X) :=
  (zO_needWord x1 I X).bind fun q1 =>
  iq_sm q1.1 (fun a2 =>
    (zO_about_l9 x1 I q1.2 ir_F ((0 : Int32), (0 : Int32))).bind fun w5 =>
    some (.inl w5, q1.2)) (fun k3 => some (.inr k3, q1.2))
def zL_about (x1 : Int32) (I : iq_I) (J : iq_J) (X : iq_X) : Option (Int32 × iq_J × iq_X) :=
  (zO_about x1 I X).bind fun q1 =>
  iq_sm q1.1 (fun a2 =>
    ir_let (iq_upJ J 114 0 (Int32.toInt64 a2)) fun J4 =>
    some ((0 : Int32), J4, q1.2)) (fun k3 => if k3 = 0 then (
    some ((1 : Int32), J, q1.2)) else (
  if k3 = 1 then (
    none) else none))
def zM_isWord_18 (s1 : Int32) (I : iq_I) : Option (Int32 × iq_I) :=
  (zM_right s1 (1 : Int32) I).bind fun q1 =>
  if q1.1 = 0 ∨ q1.1 = 1 then some (q1.1, q1.2) else none
def zM_isWord_17  (I : iq_I) : Option (Int32 × iq_I) :=
  zM_isWord_18 (0 : Int32) I
def zM_isWord (x1 : Int32) (I : iq_I) : Option (Int32 × iq_I) :=
  if x1 < 0 then (
    zM_isWord_17 I) else (
    if (I 76 2) ≤ x1 then (
      zM_isWord_17 I) else (
      zM_isWord_18 (1 : Int32) I))
def zM_about_l30_b (x1 : Int32) (x3 : Int32) (I : iq_I) (x2 : Int32) (x4 : Int32)  : Option ((Int32 × Int32) ⊕ (Int32)) :=
  if iq_in x3 206 then (
    if (I 98 (Int32.toNatClampNeg x3)) ≤ x4 then (
      some (.inr x2)) else (
      (zM_wordAt_76_98 x3 x4 I).bind fun q3 =>
      if ¬ q3 = x1 then (
        some (.inl ((x2 ||| (0 : Int32)), (x4 + (1 : Int32))))) else (
        some (.inl ((x2 ||| ((1 : Int32) <<< (x3 &&& 31))), (x4 + (1 : Int32))))))) else none
def zM_about_l30 (x1 : Int32) (x3 : Int32) (I : iq_I) (n : Nat) (v : Int32 × Int32) : Option (Int32) := iq_lp (fun v => zM_about_l30_b x1 x3 I v.1 v.2) n v
def zM_about_l19_b (x1 : Int32) (I : iq_I) (x2 : Int32) (x3 : Int32)  : Option ((Int32 × Int32) ⊕ (Int32)) :=
  if (I 76 5) ≤ x3 then (
    some (.inr x2)) else (
    (zM_about_l30 x1 x3 I ir_F (x2, (0 : Int32))).bind fun w4 =>
    some (.inl (w4, (x3 + (1 : Int32)))))
def zM_about_l19 (x1 : Int32) (I : iq_I) (n : Nat) (v : Int32 × Int32) : Option (Int32) := iq_lp (fun v => zM_about_l19_b x1 I v.1 v.2) n v
def zM_about (x1 : Int32) (I : iq_I) : Option (Int32 × iq_I) :=
  ir_let (iq_upI I 76 0 (0 : Int32)) fun I1 =>
  (zM_isWord x1 I1).bind fun q2 =>
  if ¬ q2.1 = 0 then (
    (zM_about_l19 x1 q2.2 ir_F ((0 : Int32), (0 : Int32))).bind fun w5 =>
    some (w5, q2.2)) else (
    some ((0 : Int32), q2.2))
def zO_needOneOfTwo (x1 : Int32) (I : iq_I) (X : iq_X) : Option ((Unit ⊕ Nat) × iq_X) :=
  if x1 = 0 then (
    some (.inl (), X)) else (
    if x1 = (1 : Int32) then (
      some (.inl (), X)) else (
      some (.inr 0, (ir_xx X))))
def zG_lengthOf_16 (x1 : Int32) (I : iq_I) : Option (Int32) :=
  if x1 < 0 then (
    some (0 : Int32)) else (
    if x1 < (I 16 0) then (
      if iq_in x1 5 then (
        some (I 18 (Int32.toNatClampNeg x1))) else none) else (
      some (0 : Int32)))
def zS_J7_fill_53178_73_l5_b (x1 : Int32) (x3 : Int32)  (x2 : Int32) (I : iq_I) : Option ((Int32 × iq_I) ⊕ (iq_I)) :=
  if x3 ≤ x2 then (
    some (.inr I)) else (
    if iq_in x2 41 then (
      ir_let (iq_upI I 73 (Int32.toNatClampNeg x2) x1) fun I1 =>
      some (.inl ((x2 + (1 : Int32)), I1))) else none)
def zS_J7_fill_53178_73_l5 (x1 : Int32) (x3 : Int32)  (n : Nat) (v : Int32 × iq_I) : Option (iq_I) := iq_lp (fun v => zS_J7_fill_53178_73_l5_b x1 x3 v.1 v.2) n v
def zS_J7_fill_53178_73 (x1 : Int32) (I : iq_I) : Option (iq_I) :=
  (zS_J7_fill_53178_73_l5 x1 (41 : Int32) ir_F ((0 : Int32), I)).bind fun w2 =>
  some w2
