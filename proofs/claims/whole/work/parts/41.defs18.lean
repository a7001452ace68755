/-! ===== the methods as pure functions (printed by wip/whole/emitall.py, split.py) ===== -/
def zM_readsArc_71 (x2 : Int32) (I : iq_I) (J : iq_J) : Option (iq_I × iq_J) :=
  (zM_isGood I).bind fun q5 =>
  if ¬ q5 = 0 then (
    (zM_goes I J).bind fun q6 =>
    (zM_one (q6.1 76 29) q6.1 q6.2).bind fun q7 =>
    (zM_isGood q7.2.1).bind fun q8 =>
    if ¬ q8 = 0 then (
      if iq_in x2 80 then (
        ir_let (iq_upI q7.2.1 90 (Int32.toNatClampNeg x2) q7.1) fun I9 =>
        ir_let (iq_upI I9 76 31 ((I9 76 31) + (1 : Int32))) fun I10 =>
        some (I10, q7.2.2)) else none) else (
      some (q7.2.1, q7.2.2))) else (
    some (I, J))
def zM_readsArc_14  (I : iq_I) (J : iq_J) : Option (iq_I × iq_J) :=
  (zM_isGood I).bind fun q1 =>
  if ¬ q1 = 0 then (
    (zM_goes I J).bind fun q2 =>
    (zM_one (q2.1 76 29) q2.1 q2.2).bind fun q3 =>
    (zM_numberHere (0 : Int32) (7 : Int32) q3.2.1).bind fun q4 =>
    if ¬ q4.1 = 0 then (
      if iq_in (((8 : Int32) * q3.1) + (q4.2 76 26)) 80 then (
        if (q4.2 90 (Int32.toNatClampNeg (((8 : Int32) * q3.1) + (q4.2 76 26)))) = (-1 : Int32) then (
          zM_readsArc_71 (((8 : Int32) * q3.1) + (q4.2 76 26)) q4.2 q3.2.2) else (
          (zM_wrong (4 : Int32) q4.2).bind fun q11 =>
          zM_readsArc_71 (((8 : Int32) * q3.1) + (q4.2 76 26)) q11 q3.2.2)) else none) else (
      some (q4.2, q3.2.2))) else (
    some (I, J))
def zM_readsArc  (I : iq_I) (J : iq_J) : Option (iq_I × iq_J) :=
  if ¬ (I 76 31) = (24 : Int32) then (
    zM_readsArc_14 I J) else (
    (zM_wrong (2 : Int32) I).bind fun q12 =>
    zM_readsArc_14 q12 J)
def zM_readsSaying_131 (x1 : Int32) (x2 : Int32) (x3 : Int32) (I : iq_I) (J : iq_J) : Option ((Int32 × iq_I × iq_J) ⊕ ((iq_I × iq_J) ⊕ (iq_I × iq_J))) :=
  (zM_isGood I).bind fun q9 =>
  if ¬ q9 = 0 then (
    if iq_in x1 206 then (
      if iq_in (((6 : Int32) + ((40 : Int32) * x1)) + (I 94 (Int32.toNatClampNeg x1))) 206 then (
        ir_let (iq_upI I 94 (Int32.toNatClampNeg (((6 : Int32) + ((40 : Int32) * x1)) + (I 94 (Int32.toNatClampNeg x1)))) x3) fun I10 =>
        if iq_in x1 206 then (
          if iq_in x1 206 then (
            ir_let (iq_upI I10 94 (Int32.toNatClampNeg x1) ((I10 94 (Int32.toNatClampNeg x1)) + (1 : Int32))) fun I11 =>
            if iq_in x3 14 then (
              if iq_in (((8 : Int32) * x2) + (I11 89 (Int32.toNatClampNeg x3))) 80 then (
                (zM_goes I11 J).bind fun q12 =>
                some (.inl ((I11 90 (Int32.toNatClampNeg (((8 : Int32) * x2) + (I11 89 (Int32.toNatClampNeg x3))))), q12.1, q12.2))) else none) else none) else none) else none) else none) else none) else (
    some (.inr (.inr (I, J))))
def zM_readsSaying_89 (x1 : Int32) (x2 : Int32) (I : iq_I) (J : iq_J) : Option ((Int32 × iq_I × iq_J) ⊕ ((iq_I × iq_J) ⊕ (iq_I × iq_J))) :=
  (zM_oneHere (I 76 30) I).bind fun q7 =>
  (zM_isGood q7.2).bind fun q8 =>
  if q8 = 0 then (
    zM_readsSaying_131 x1 x2 q7.1 q7.2 J) else (
    if iq_in q7.1 14 then (
      if iq_in (((8 : Int32) * x2) + (q7.2 89 (Int32.toNatClampNeg q7.1))) 80 then (
        if ¬ (q7.2 90 (Int32.toNatClampNeg (((8 : Int32) * x2) + (q7.2 89 (Int32.toNatClampNeg q7.1))))) = (-1 : Int32) then (
          zM_readsSaying_131 x1 x2 q7.1 q7.2 J) else (
          (zM_wrong (6 : Int32) q7.2).bind fun q13 =>
          zM_readsSaying_131 x1 x2 q7.1 q13 J)) else none) else none)
def zM_readsSaying_l58_b (x1 : Int32)  (x2 : Int32) (I : iq_I) (J : iq_J) : Option ((Int32 × iq_I × iq_J) ⊕ ((iq_I × iq_J) ⊕ (iq_I × iq_J))) :=
  (zM_isGood I).bind fun q6 =>
  if q6 = 0 then (
    some (.inr (.inl (I, J)))) else (
    if ¬ (I 76 23) = (2 : Int32) then (
      some (.inr (.inl (I, J)))) else (
      if iq_in x1 206 then (
        if ¬ (I 94 (Int32.toNatClampNeg x1)) = (40 : Int32) then (
          zM_readsSaying_89 x1 x2 I J) else (
          (zM_wrong (2 : Int32) I).bind fun q14 =>
          zM_readsSaying_89 x1 x2 q14 J)) else none))
def zM_readsSaying_l58 (x1 : Int32)  (n : Nat) (v : Int32 × iq_I × iq_J) : Option ((iq_I × iq_J) ⊕ (iq_I × iq_J)) := iq_lp (fun v => zM_readsSaying_l58_b x1 v.1 v.2.1 v.2.2) n v
def zM_readsSaying_193  (I : iq_I) (J : iq_J) : Option (iq_I × iq_J) :=
  (zM_isGood I).bind fun q18 =>
  if q18 = 0 then (
    some (I, J)) else (
    ir_let (iq_upI I 76 33 ((I 76 33) + (1 : Int32))) fun I19 =>
    some (I19, J))
def zM_readsSaying_13  (I : iq_I) (J : iq_J) : Option (iq_I × iq_J) :=
  (zM_isGood I).bind fun q1 =>
  if ¬ q1 = 0 then (
    (zM_goes I J).bind fun q2 =>
    (zM_one (q2.1 76 29) q2.1 q2.2).bind fun q3 =>
    if iq_in (q2.1 76 33) 5 then (
      ir_let (iq_upI q3.2.1 93 (Int32.toNatClampNeg (q2.1 76 33)) q3.1) fun I4 =>
      if iq_in (q2.1 76 33) 206 then (
        ir_let (iq_upI I4 94 (Int32.toNatClampNeg (q2.1 76 33)) (0 : Int32)) fun I5 =>
        if iq_in (q2.1 76 33) 5 then (
          (zM_readsSaying_l58 (q2.1 76 33) ir_F ((I5 93 (Int32.toNatClampNeg (q2.1 76 33))), I5, q3.2.2)).bind fun w15 =>
          ir_sm w15 (fun a16 =>
            zM_readsSaying_193 a16.1 a16.2) (fun b17 => some b17)) else none) else none) else none) else (
    some (I, J))
def zM_readsSaying  (I : iq_I) (J : iq_J) : Option (iq_I × iq_J) :=
  if ¬ (I 76 33) = (5 : Int32) then (
    zM_readsSaying_13 I J) else (
    (zM_wrong (2 : Int32) I).bind fun q20 =>
    zM_readsSaying_13 q20 J)
def zM_deeper_61 (s1 : Int32) (I : iq_I) : Option (iq_I) :=
  (zM_wrong s1 I).bind fun q1 =>
  some q1
def zM_deeper_56  (I : iq_I) : Option (iq_I) :=
  zM_deeper_61 (2 : Int32) I
def zM_deeper  (I : iq_I) : Option (iq_I) :=
  if (6 : Int32) ≤ (I 76 39) then (
    if (I 76 23) = (2 : Int32) then (
      zM_deeper_56 I) else (
      if (I 76 23) = (1 : Int32) then (
        zM_deeper_56 I) else (
        (zM_isSign (40 : Int32) I).bind fun q2 =>
        if q2 = 0 then (
          zM_deeper_61 (1 : Int32) I) else (
          zM_deeper_56 I)))) else (
    ir_let (iq_upI I 76 39 ((I 76 39) + (1 : Int32))) fun I3 =>
    if iq_in (I3 76 39) 9 ∧ ((0 : Int32) = 0 ∨ (0 : Int32) = 1) then (
      ir_let (iq_upI I3 97 (Int32.toNatClampNeg (I3 76 39)) (0 : Int32)) fun I4 =>
      some I4) else none)
def zM_waitsFor (x1 : Int32) (I : iq_I) : Option (iq_I) :=
  if iq_in (I 76 38) 950 then (
    ir_let (iq_upI I 96 (Int32.toNatClampNeg (I 76 38)) x1) fun I1 =>
    ir_let (iq_upI I1 76 38 ((I1 76 38) + (1 : Int32))) fun I2 =>
    some I2) else none
def zM_puts (x1 : Int32) (I : iq_I) : Option (iq_I) :=
  if iq_in (I 76 37) 4000 then (
    ir_let (iq_upI I 95 (Int32.toNatClampNeg (I 76 37)) x1) fun I1 =>
    ir_let (iq_upI I1 76 37 ((I1 76 37) + (1 : Int32))) fun I2 =>
    some I2) else none
def zM_part_91  (I : iq_I) (J : iq_J) : Option (iq_I × iq_J) :=
  (zM_isGood I).bind fun q3 =>
  if q3 = 0 then (
    some (I, J)) else (
    (zM_goes I J).bind fun q4 =>
    some (q4.1, q4.2))
def zM_part_73 (x1 : Int32) (I : iq_I) (J : iq_J) : Option (iq_I × iq_J) :=
  (zM_puts (2 : Int32) I).bind fun q7 =>
  (zM_puts x1 q7).bind fun q8 =>
  zM_part_91 q8 J
def zM_part_68 (x1 : Int32) (I : iq_I) (J : iq_J) : Option (iq_I × iq_J) :=
  (zM_wrong (3 : Int32) I).bind fun q6 =>
  zM_part_73 x1 q6 J
def zM_part_29  (I : iq_I) (J : iq_J) : Option (iq_I × iq_J) :=
  (zM_puts (1 : Int32) I).bind fun q9 =>
  (zM_puts (q9 76 26) q9).bind fun q10 =>
  zM_part_91 q10 J
def zM_part  (I : iq_I) (J : iq_J) : Option (iq_I × iq_J) :=
  (zM_isGood I).bind fun q1 =>
  if ¬ q1 = 0 then (
    if ¬ (I 76 23) = (2 : Int32) then (
      if ¬ (I 76 23) = (1 : Int32) then (
        (zM_wrong (1 : Int32) I).bind fun q2 =>
        zM_part_91 q2 J) else (
        (zM_knownWord I J).bind fun q5 =>
        if q5 < 0 then (
          zM_part_68 q5 I J) else (
          if q5 ≤ (6 : Int32) then (
            zM_part_73 q5 I J) else (
            zM_part_68 q5 I J)))) else (
      if (I 76 25) ≤ (4 : Int32) then (
        zM_part_29 I J) else (
        (zM_wrong (2 : Int32) I).bind fun q11 =>
        zM_part_29 q11 J))) else (
    some (I, J))
def zM_operand_50 (x2 : Int32) (x4 : Int32) (I : iq_I) (J : iq_J) : Option ((Int32 × iq_I × iq_J) ⊕ (iq_I × iq_J)) :=
  (zM_isGood I).bind fun q4 =>
  if ¬ q4 = 0 then (
    (zM_waitsFor (3 : Int32) I).bind fun q5 =>
    (zM_goes q5 J).bind fun q6 =>
    some (.inl ((x4 + (1 : Int32)), q6.1, q6.2))) else (
    some (.inl ((x4 + (1 : Int32)), I, J)))
def zM_operand_l18_b (x2 : Int32)  (x4 : Int32) (I : iq_I) (J : iq_J) : Option ((Int32 × iq_I × iq_J) ⊕ (iq_I × iq_J)) :=
  (zM_isGood I).bind fun q2 =>
  if q2 = 0 then (
    some (.inr (I, J))) else (
    if x2 = 0 then (
      some (.inr (I, J))) else (
      (zM_knownWord I J).bind fun q3 =>
      if ¬ q3 = (16 : Int32) then (
        some (.inr (I, J))) else (
        if ¬ x4 = (6 : Int32) then (
          zM_operand_50 x2 x4 I J) else (
          (zM_wrong (2 : Int32) I).bind fun q7 =>
          zM_operand_50 x2 x4 q7 J))))
def zM_operand_l18 (x2 : Int32)  (n : Nat) (v : Int32 × iq_I × iq_J) : Option (iq_I × iq_J) := iq_lp (fun v => zM_operand_l18_b x2 v.1 v.2.1 v.2.2) n v
def zM_operand_96 (x2 : Int32) (s0 : Int32) (I : iq_I) (J : iq_J) : Option ((Int32 × Int32 × iq_I × iq_J) ⊕ (iq_I × iq_J)) :=
  if s0 = 0 then (
    some (.inl (x2, s0, I, J))) else (
    (zM_waitsFor (14 : Int32) I).bind fun q10 =>
    (zM_goes q10 J).bind fun q11 =>
    (zM_deeper q11.1).bind fun q12 =>
    some (.inl ((1 : Int32), s0, q12, q11.2)))
def zM_operand_95 (x2 : Int32) (I : iq_I) (J : iq_J) : Option ((Int32 × Int32 × iq_I × iq_J) ⊕ (iq_I × iq_J)) :=
  zM_operand_96 x2 (0 : Int32) I J
def zM_operand_75 (x2 : Int32) (I : iq_I) (J : iq_J) : Option ((Int32 × Int32 × iq_I × iq_J) ⊕ (iq_I × iq_J)) :=
  (zM_isGood I).bind fun q9 =>
  if q9 = 0 then (
    zM_operand_95 x2 I J) else (
    (zM_isSign (40 : Int32) I).bind fun q13 =>
    if q13 = 0 then (
      zM_operand_95 x2 I J) else (
      zM_operand_96 x2 (1 : Int32) I J))
def zM_operand_l4_b   (x2 : Int32) (x3 : Int32) (I : iq_I) (J : iq_J) : Option ((Int32 × Int32 × iq_I × iq_J) ⊕ (iq_I × iq_J)) :=
  if x3 = 0 then (
    some (.inr (I, J))) else (
    (zM_isGood I).bind fun q1 =>
    if q1 = 0 then (
      some (.inr (I, J))) else (
      (zM_operand_l18 x2 ir_F ((0 : Int32), I, J)).bind fun w8 =>
      zM_operand_75 x2 w8.1 w8.2))
def zM_operand_l4   (n : Nat) (v : Int32 × Int32 × iq_I × iq_J) : Option (iq_I × iq_J) := iq_lp (fun v => zM_operand_l4_b  v.1 v.2.1 v.2.2.1 v.2.2.2) n v
def zM_operand_120  (I : iq_I) (J : iq_J) : Option (iq_I × iq_J) :=
  (zM_part I J).bind fun q15 =>
  some (q15.1, q15.2)
def zM_operand (x1 : Int32) (I : iq_I) (J : iq_J) : Option (iq_I × iq_J) :=
  (zM_operand_l4  ir_F (x1, (1 : Int32), I, J)).bind fun w14 =>
  zM_operand_120 w14.1 w14.2
def zM_isOpen (x0 : Int32) (I : iq_I) : Option (Int32) :=
  if x0 < (14 : Int32) then (
    some (0 : Int32)) else (
    some (1 : Int32))
def zM_strength (x0 : Int32) (I : iq_I) : Option (Int32) :=
  if ¬ x0 = (5 : Int32) then (
    if ¬ x0 = (4 : Int32) then (
      if ¬ x0 = (3 : Int32) then (
        if x0 = (6 : Int32) then (
          some (4 : Int32)) else (
          if ¬ x0 = (7 : Int32) then (
            if x0 = (8 : Int32) then (
              some (5 : Int32)) else (
              if ¬ x0 = (9 : Int32) then (
                some (6 : Int32)) else (
                some (5 : Int32)))) else (
            some (4 : Int32)))) else (
        some (3 : Int32))) else (
      some (2 : Int32))) else (
    some (1 : Int32))
def zM_drops_l0_b (x1 : Int32)   (I : iq_I) : Option ((iq_I) ⊕ (iq_I)) :=
  if (I 76 38) ≤ 0 then (
    some (.inr I)) else (
    if iq_in ((I 76 38) - (1 : Int32)) 950 then (
      (zM_isOpen (I 96 (Int32.toNatClampNeg ((I 76 38) - (1 : Int32)))) I).bind fun q1 =>
      if ¬ q1 = 0 then (
        some (.inr I)) else (
        if iq_in ((I 76 38) - (1 : Int32)) 950 then (
          (zM_strength (I 96 (Int32.toNatClampNeg ((I 76 38) - (1 : Int32)))) I).bind fun q2 =>
          if q2 < x1 then (
            some (.inr I)) else (
            ir_let (iq_upI I 76 38 ((I 76 38) - (1 : Int32))) fun I3 =>
            if iq_in (I3 76 38) 950 then (
              (zM_puts (I3 96 (Int32.toNatClampNeg (I3 76 38))) I3).bind fun q4 =>
              some (.inl q4)) else none)) else none)) else none)
def zM_drops_l0 (x1 : Int32)  (n : Nat) (v : iq_I) : Option (iq_I) := iq_lp (fun v => zM_drops_l0_b x1 v) n v
def zM_drops (x1 : Int32) (I : iq_I) : Option (iq_I) :=
  (zM_drops_l0 x1 ir_F I).bind fun w5 =>
  some w5
def zM_isOpened_l7_b  (I : iq_I) (x1 : Int32)  : Option ((Int32) ⊕ (Int32)) :=
  if x1 < 0 then (
    some (.inr x1)) else (
    if iq_in x1 950 then (
      (zM_isOpen (I 96 (Int32.toNatClampNeg x1)) I).bind fun q1 =>
      if ¬ q1 = 0 then (
        some (.inr x1)) else (
        some (.inl (x1 + (-1 : Int32))))) else none)
def zM_isOpened_l7  (I : iq_I) (n : Nat) (v : Int32) : Option (Int32) := iq_lp (fun v => zM_isOpened_l7_b I v) n v
def zM_isOpened_29 (x1 : Int32) (I : iq_I) : Option (Int32) :=
  if x1 < 0 then (
    some (0 : Int32)) else (
    some (1 : Int32))
def zM_isOpened  (I : iq_I) : Option (Int32) :=
  (zM_isOpened_l7 I ir_F ((I 76 38) - (1 : Int32))).bind fun w2 =>
  zM_isOpened_29 w2 I
def zM_closes  (I : iq_I) (J : iq_J) : Option (iq_I × iq_J) :=
  (zM_drops (0 : Int32) I).bind fun q1 =>
  ir_let (iq_upI q1 76 38 ((q1 76 38) - (1 : Int32))) fun I2 =>
  ir_let (iq_upI I2 76 39 ((I2 76 39) - (1 : Int32))) fun I3 =>
  (zM_goes I3 J).bind fun q4 =>
  some (q4.1, q4.2)
def zM_expression_84 (x1 : Int32) (s1 : Int32) (I : iq_I) (J : iq_J) : Option ((Int32 × iq_I × iq_J) ⊕ (iq_I × iq_J)) :=
  (zM_waitsFor s1 I).bind fun q9 =>
  if iq_in (q9 76 39) 9 ∧ ((0 : Int32) = 0 ∨ (0 : Int32) = 1) then (
    ir_let (iq_upI q9 97 (Int32.toNatClampNeg (q9 76 39)) (0 : Int32)) fun I10 =>
    (zM_goes I10 J).bind fun q11 =>
    (zM_operand (1 : Int32) q11.1 q11.2).bind fun q12 =>
    some (.inl (x1, q12.1, q12.2))) else none
def zM_expression_69 (x1 : Int32) (x2 : Int32) (s1 : Int32) (I : iq_I) (J : iq_J) : Option ((Int32 × iq_I × iq_J) ⊕ (iq_I × iq_J)) :=
  (zM_drops s1 I).bind fun q8 =>
  if ¬ x2 = (14 : Int32) then (
    zM_expression_84 x1 (5 : Int32) q8 J) else (
    zM_expression_84 x1 (4 : Int32) q8 J)
def zM_expression_57 (x1 : Int32) (x2 : Int32) (I : iq_I) (J : iq_J) : Option ((Int32 × iq_I × iq_J) ⊕ (iq_I × iq_J)) :=
  if ¬ x2 = (14 : Int32) then (
    zM_expression_69 x1 x2 (1 : Int32) I J) else (
    zM_expression_69 x1 x2 (2 : Int32) I J)
def zM_expression_226 (x1 : Int32) (s1 : Int32) (I : iq_I) (J : iq_J) : Option ((Int32 × iq_I × iq_J) ⊕ (iq_I × iq_J)) :=
  (zM_waitsFor s1 I).bind fun q17 =>
  (zM_goes q17 J).bind fun q18 =>
  (zM_operand (0 : Int32) q18.1 q18.2).bind fun q19 =>
  some (.inl (x1, q19.1, q19.2))
def zM_expression_204 (x1 : Int32) (I : iq_I) (J : iq_J) : Option ((Int32 × iq_I × iq_J) ⊕ (iq_I × iq_J)) :=
  (zM_drops (5 : Int32) I).bind fun q15 =>
  (zM_isSign (43 : Int32) q15).bind fun q16 =>
  if q16 = 0 then (
    zM_expression_226 x1 (9 : Int32) q15 J) else (
    zM_expression_226 x1 (8 : Int32) q15 J)
def zM_expression_282 (x1 : Int32) (s1 : Int32) (I : iq_I) (J : iq_J) : Option ((Int32 × iq_I × iq_J) ⊕ (iq_I × iq_J)) :=
  (zM_waitsFor s1 I).bind fun q24 =>
  (zM_goes q24 J).bind fun q25 =>
  (zM_operand (0 : Int32) q25.1 q25.2).bind fun q26 =>
  some (.inl (x1, q26.1, q26.2))
def zM_expression_259 (x1 : Int32) (I : iq_I) (J : iq_J) : Option ((Int32 × iq_I × iq_J) ⊕ (iq_I × iq_J)) :=
  (zM_drops (6 : Int32) I).bind fun q22 =>
  (zM_isSign (42 : Int32) q22).bind fun q23 =>
  if q23 = 0 then (
    zM_expression_282 x1 (11 : Int32) q22 J) else (
    zM_expression_282 x1 (10 : Int32) q22 J)
def zM_expression_186 (x1 : Int32) (I : iq_I) (J : iq_J) : Option ((Int32 × iq_I × iq_J) ⊕ (iq_I × iq_J)) :=
  (zM_isSign (43 : Int32) I).bind fun q14 =>
  if ¬ q14 = 0 then (
    zM_expression_204 x1 I J) else (
    (zM_isSign (45 : Int32) I).bind fun q20 =>
    if q20 = 0 then (
      (zM_isSign (42 : Int32) I).bind fun q21 =>
      if ¬ q21 = 0 then (
        zM_expression_259 x1 I J) else (
        (zM_isSign (47 : Int32) I).bind fun q27 =>
        if q27 = 0 then (
          (zM_isSign (41 : Int32) I).bind fun q28 =>
          if q28 = 0 then (
            some (.inl ((0 : Int32), I, J))) else (
            (zM_isOpened I).bind fun q29 =>
            if q29 = 0 then (
              some (.inl ((0 : Int32), I, J))) else (
              (zM_closes I J).bind fun q30 =>
              some (.inl (x1, q30.1, q30.2))))) else (
          zM_expression_259 x1 I J))) else (
      zM_expression_204 x1 I J))
def zM_expression_161 (x1 : Int32) (s1 : Int32) (I : iq_I) (J : iq_J) : Option ((Int32 × iq_I × iq_J) ⊕ (iq_I × iq_J)) :=
  (zM_waitsFor s1 I).bind fun q33 =>
  if iq_in (q33 76 39) 9 ∧ ((1 : Int32) = 0 ∨ (1 : Int32) = 1) then (
    ir_let (iq_upI q33 97 (Int32.toNatClampNeg (q33 76 39)) (1 : Int32)) fun I34 =>
    (zM_goes I34 J).bind fun q35 =>
    (zM_operand (0 : Int32) q35.1 q35.2).bind fun q36 =>
    some (.inl (x1, q36.1, q36.2))) else none
def zM_expression_127 (x1 : Int32) (I : iq_I) (J : iq_J) : Option ((Int32 × iq_I × iq_J) ⊕ (iq_I × iq_J)) :=
  if iq_in (I 76 39) 9 then (
    if ¬ (I 97 (Int32.toNatClampNeg (I 76 39))) = 0 then (
      zM_expression_186 x1 I J) else (
      (zM_drops (4 : Int32) I).bind fun q31 =>
      (zM_isSign (60 : Int32) q31).bind fun q32 =>
      if q32 = 0 then (
        zM_expression_161 x1 (7 : Int32) q31 J) else (
        zM_expression_161 x1 (6 : Int32) q31 J))) else none
def zM_expression_l29_b   (x1 : Int32) (I : iq_I) (J : iq_J) : Option ((Int32 × iq_I × iq_J) ⊕ (iq_I × iq_J)) :=
  if x1 = 0 then (
    some (.inr (I, J))) else (
    (zM_isGood I).bind fun q6 =>
    if q6 = 0 then (
      some (.inr (I, J))) else (
      (zM_knownWord I J).bind fun q7 =>
      if q7 = (14 : Int32) then (
        zM_expression_57 x1 q7 I J) else (
        if ¬ q7 = (15 : Int32) then (
          (zM_isSign (60 : Int32) I).bind fun q13 =>
          if ¬ q13 = 0 then (
            zM_expression_127 x1 I J) else (
            (zM_isSign (61 : Int32) I).bind fun q37 =>
            if q37 = 0 then (
              zM_expression_186 x1 I J) else (
              zM_expression_127 x1 I J))) else (
          zM_expression_57 x1 q7 I J))))
def zM_expression_l29   (n : Nat) (v : Int32 × iq_I × iq_J) : Option (iq_I × iq_J) := iq_lp (fun v => zM_expression_l29_b  v.1 v.2.1 v.2.2) n v
def zM_expression_345  (I : iq_I) (J : iq_J) : Option (iq_I × iq_J) :=
  (zM_drops (0 : Int32) I).bind fun q40 =>
  (zM_puts (0 : Int32) q40).bind fun q41 =>
  some (q41, J)
def zM_expression_325  (I : iq_I) (J : iq_J) : Option (iq_I × iq_J) :=
  (zM_isGood I).bind fun q39 =>
  if q39 = 0 then (
    zM_expression_345 I J) else (
    if (I 76 39) ≤ (1 : Int32) then (
      zM_expression_345 I J) else (
      (zM_wrong (1 : Int32) I).bind fun q42 =>
      zM_expression_345 q42 J))
def zM_expression  (I : iq_I) (J : iq_J) : Option (iq_I × iq_J) :=
  (zM_isGood I).bind fun q1 =>
  if ¬ q1 = 0 then (
    ir_let (iq_upI I 76 38 (0 : Int32)) fun I2 =>
    ir_let (iq_upI I2 76 39 (0 : Int32)) fun I3 =>
    (zM_deeper I3).bind fun q4 =>
    (zM_operand (1 : Int32) q4 J).bind fun q5 =>
    (zM_expression_l29  ir_F ((1 : Int32), q5.1, q5.2)).bind fun w38 =>
    zM_expression_325 w38.1 w38.2) else (
    some (I, J))
