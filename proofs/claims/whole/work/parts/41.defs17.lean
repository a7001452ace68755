/-! ===== the methods as pure functions (printed by wip/whole/emitall.py, split.py) ===== -/
def zO_museum_12  (I : iq_I) (X : iq_X) : Option ((Int32 ⊕ Nat) × iq_I × iq_X) :=
  some (.inr 1, I, (ir_xx X))
def zO_museum (x1 : Int32) (I : iq_I) (X : iq_X) : Option ((Int32 ⊕ Nat) × iq_I × iq_X) :=
  if x1 < 0 then (
    zO_museum_12 I X) else (
    if x1 ≤ (I 1 11) then (
      ir_let (iq_upI I 1 11 (0 : Int32)) fun I1 =>
      (zR_read x1 I1).bind fun q2 =>
      if q2.1 = 0 then (
        ir_let (iq_upI q2.2 1 12 (-1 : Int32)) fun I3 =>
        (zU_copyFrom I3).bind fun q4 =>
        (zG_copyFrom_16_50 q4).bind fun q5 =>
        ir_let (iq_upI q5 1 13 (0 : Int32)) fun I6 =>
        some (.inl (0 : Int32), I6, X)) else (
        ir_let (iq_upI q2.2 1 12 (q2.2 61 0)) fun I7 =>
        ir_let (iq_upI I7 3 0 ((I7 3 0) + (1 : Int32))) fun I8 =>
        some (.inl q2.1, I8, X))) else (
      zO_museum_12 I X))
def zL_museum (x1 : Int32) (I : iq_I) (J : iq_J) (X : iq_X) : Option (Int32 × iq_I × iq_J × iq_X) :=
  (zO_museum x1 I X).bind fun q1 =>
  iq_sm q1.1 (fun a2 =>
    ir_let (iq_upJ J 114 0 (Int32.toInt64 a2)) fun J4 =>
    some ((0 : Int32), q1.2.1, J4, q1.2.2)) (fun k3 => if k3 = 0 then (
    none) else (
  if k3 = 1 then (
    some ((1 : Int32), q1.2.1, J, q1.2.2)) else none))
def zM_byteAt (x1 : Int32) (I : iq_I) : Option (Int32) :=
  if (I 76 21) ≤ x1 then (
    some (0 : Int32)) else (
    if iq_in x1 700 then (
      some (I 85 (Int32.toNatClampNeg x1))) else none)
def zM_isLetter (x0 : Int32) (I : iq_I) : Option (Int32) :=
  if x0 < (97 : Int32) then (
    some (0 : Int32)) else (
    if (122 : Int32) < x0 then (
      some (0 : Int32)) else (
      some (1 : Int32)))
def zM_isDigit (x0 : Int32) (I : iq_I) : Option (Int32) :=
  if x0 < (48 : Int32) then (
    some (0 : Int32)) else (
    if (57 : Int32) < x0 then (
      some (0 : Int32)) else (
      some (1 : Int32)))
def zM_goes_l0_b  (J : iq_J)  (I : iq_I) : Option ((iq_I) ⊕ (iq_I)) :=
  if (I 76 21) ≤ (I 76 22) then (
    some (.inr I)) else (
    (zM_byteAt (I 76 22) I).bind fun q1 =>
    if q1 = (32 : Int32) then (
      ir_let (iq_upI I 76 22 ((I 76 22) + (1 : Int32))) fun I2 =>
      some (.inl I2)) else (
      (zM_byteAt (I 76 22) I).bind fun q3 =>
      if ¬ q3 = (10 : Int32) then (
        some (.inr I)) else (
        ir_let (iq_upI I 76 22 ((I 76 22) + (1 : Int32))) fun I4 =>
        some (.inl I4))))
def zM_goes_l0  (J : iq_J) (n : Nat) (v : iq_I) : Option (iq_I) := iq_lp (fun v => zM_goes_l0_b J v) n v
def zM_goes_323  (I : iq_I) (J : iq_J) : Option (iq_I × iq_J) :=
  ir_let (iq_upI I 76 23 (3 : Int32)) fun I14 =>
  ir_let (iq_upI I14 76 25 ((I14 76 22) - (I14 76 24))) fun I15 =>
  some (I15, J)
def zM_goes_l187_b  (J : iq_J)  (I : iq_I) : Option ((iq_I) ⊕ (iq_I)) :=
  (zM_byteAt (I 76 22) I).bind fun q18 =>
  (zM_isDigit q18 I).bind fun q19 =>
  if q19 = 0 then (
    some (.inr I)) else (
    if (4 : Int32) ≤ ((I 76 22) - (I 76 24)) then (
      ir_let (iq_upI I 76 22 ((I 76 22) + (1 : Int32))) fun I20 =>
      some (.inl I20)) else (
      (zM_byteAt (I 76 22) I).bind fun q21 =>
      ir_let (iq_upI I 76 26 ((((10 : Int32) * (I 76 26)) + q21) - (48 : Int32))) fun I22 =>
      ir_let (iq_upI I22 76 22 ((I22 76 22) + (1 : Int32))) fun I23 =>
      some (.inl I23)))
def zM_goes_l187  (J : iq_J) (n : Nat) (v : iq_I) : Option (iq_I) := iq_lp (fun v => zM_goes_l187_b J v) n v
def zM_goes_l108_b    (I : iq_I) (J : iq_J) : Option ((iq_I × iq_J) ⊕ (iq_I × iq_J)) :=
  (zM_byteAt (I 76 22) I).bind fun q27 =>
  (zM_isLetter q27 I).bind fun q28 =>
  if q28 = 0 then (
    some (.inr (I, J))) else (
    if (7 : Int32) ≤ ((I 76 22) - (I 76 24)) then (
      ir_let (iq_upI I 76 22 ((I 76 22) + (1 : Int32))) fun I29 =>
      some (.inl (I29, J))) else (
      (zM_byteAt (I 76 22) I).bind fun q30 =>
      ir_let (iq_upJ J 76 28 (((J 76 28) <<< (Int32.toInt64 (5 : Int32) &&& 63)) ||| (Int32.toInt64 (q30 - (96 : Int32))))) fun J31 =>
      ir_let (iq_upI I 76 22 ((I 76 22) + (1 : Int32))) fun I32 =>
      some (.inl (I32, J31))))
def zM_goes_l108   (n : Nat) (v : iq_I × iq_J) : Option (iq_I × iq_J) := iq_lp (fun v => zM_goes_l108_b  v.1 v.2) n v
def zM_goes_50  (I : iq_I) (J : iq_J) : Option (iq_I × iq_J) :=
  ir_let (iq_upI I 76 24 (I 76 22)) fun I6 =>
  ir_let (iq_upJ J 76 28 (0 : Int64)) fun J7 =>
  ir_let (iq_upI I6 76 26 (0 : Int32)) fun I8 =>
  (zM_byteAt (I8 76 22) I8).bind fun q9 =>
  ir_let (iq_upI I8 76 27 q9) fun I10 =>
  if (I10 76 22) < (I10 76 21) then (
    (zM_isLetter q9 I10).bind fun q11 =>
    if q11 = 0 then (
      (zM_isDigit q9 I10).bind fun q12 =>
      if q12 = 0 then (
        ir_let (iq_upI I10 76 22 ((I10 76 22) + (1 : Int32))) fun I13 =>
        if q9 = (59 : Int32) then (
          zM_goes_323 I13 J7) else (
          if q9 = (40 : Int32) then (
            zM_goes_323 I13 J7) else (
            if q9 = (41 : Int32) then (
              zM_goes_323 I13 J7) else (
              if q9 = (43 : Int32) then (
                zM_goes_323 I13 J7) else (
                if q9 = (45 : Int32) then (
                  zM_goes_323 I13 J7) else (
                  if q9 = (42 : Int32) then (
                    zM_goes_323 I13 J7) else (
                    if q9 = (47 : Int32) then (
                      zM_goes_323 I13 J7) else (
                      if q9 = (60 : Int32) then (
                        zM_goes_323 I13 J7) else (
                        if ¬ q9 = (61 : Int32) then (
                          ir_let (iq_upI I13 76 23 (4 : Int32)) fun I16 =>
                          ir_let (iq_upI I16 76 25 ((I16 76 22) - (I16 76 24))) fun I17 =>
                          some (I17, J7)) else (
                          zM_goes_323 I13 J7)))))))))) else (
        (zM_goes_l187 J7 ir_F I10).bind fun w24 =>
        ir_let (iq_upI w24 76 23 (2 : Int32)) fun I25 =>
        ir_let (iq_upI I25 76 25 ((I25 76 22) - (I25 76 24))) fun I26 =>
        some (I26, J7))) else (
      (zM_goes_l108  ir_F (I10, J7)).bind fun w33 =>
      ir_let (iq_upI w33.1 76 23 (1 : Int32)) fun I34 =>
      ir_let (iq_upI I34 76 25 ((I34 76 22) - (I34 76 24))) fun I35 =>
      some (I35, w33.2))) else (
    ir_let (iq_upI I10 76 23 (0 : Int32)) fun I36 =>
    ir_let (iq_upI I36 76 25 ((I36 76 22) - (I36 76 24))) fun I37 =>
    some (I37, J7))
def zM_goes  (I : iq_I) (J : iq_J) : Option (iq_I × iq_J) :=
  (zM_goes_l0 J ir_F I).bind fun w5 =>
  zM_goes_50 w5 J
def zM_isGood  (I : iq_I) : Option (Int32) :=
  if ¬ (I 76 18) = 0 then (
    some (0 : Int32)) else (
    some (1 : Int32))
def zM_spelled_84 (x6 : Int32) (y7 : Int64) (I : iq_I) : Option (Int64) :=
  if x6 = 0 then (
    some y7) else (
    some ((y7 <<< (Int32.toInt64 (5 : Int32) &&& 63)) ||| (Int32.toInt64 (x6 - (96 : Int32)))))
def zM_spelled_66 (x5 : Int32) (x6 : Int32) (y7 : Int64) (I : iq_I) : Option (Int64) :=
  if x5 = 0 then (
    zM_spelled_84 x6 y7 I) else (
    zM_spelled_84 x6 ((y7 <<< (Int32.toInt64 (5 : Int32) &&& 63)) ||| (Int32.toInt64 (x5 - (96 : Int32)))) I)
def zM_spelled_48 (x4 : Int32) (x5 : Int32) (x6 : Int32) (y7 : Int64) (I : iq_I) : Option (Int64) :=
  if x4 = 0 then (
    zM_spelled_66 x5 x6 y7 I) else (
    zM_spelled_66 x5 x6 ((y7 <<< (Int32.toInt64 (5 : Int32) &&& 63)) ||| (Int32.toInt64 (x4 - (96 : Int32)))) I)
def zM_spelled_32 (x3 : Int32) (x4 : Int32) (x5 : Int32) (x6 : Int32) (y7 : Int64) (I : iq_I) : Option (Int64) :=
  if x3 = 0 then (
    zM_spelled_48 x4 x5 x6 y7 I) else (
    zM_spelled_48 x4 x5 x6 ((y7 <<< (Int32.toInt64 (5 : Int32) &&& 63)) ||| (Int32.toInt64 (x3 - (96 : Int32)))) I)
def zM_spelled (x0 : Int32) (x1 : Int32) (x2 : Int32) (x3 : Int32) (x4 : Int32) (x5 : Int32) (x6 : Int32) (I : iq_I) : Option (Int64) :=
  if x2 = 0 then (
    zM_spelled_32 x3 x4 x5 x6 ((((Int32.toInt64 x0) - (96 : Int64)) <<< (Int32.toInt64 (5 : Int32) &&& 63)) ||| (Int32.toInt64 (x1 - (96 : Int32)))) I) else (
    zM_spelled_32 x3 x4 x5 x6 ((((((Int32.toInt64 x0) - (96 : Int64)) <<< (Int32.toInt64 (5 : Int32) &&& 63)) ||| (Int32.toInt64 (x1 - (96 : Int32)))) <<< (Int32.toInt64 (5 : Int32) &&& 63)) ||| (Int32.toInt64 (x2 - (96 : Int32)))) I)
def zM_letters_80  (I : iq_I) : Option (Int64) :=
  (zM_spelled (107 : Int32) (105 : Int32) (110 : Int32) (100 : Int32) (0 : Int32) (0 : Int32) (0 : Int32) I).bind fun q1 =>
  some q1
def zM_letters_95  (I : iq_I) : Option (Int64) :=
  (zM_spelled (108 : Int32) (101 : Int32) (116 : Int32) (116 : Int32) (101 : Int32) (114 : Int32) (115 : Int32) I).bind fun q2 =>
  some q2
def zM_letters_113  (I : iq_I) : Option (Int64) :=
  (zM_spelled (119 : Int32) (111 : Int32) (114 : Int32) (100 : Int32) (0 : Int32) (0 : Int32) (0 : Int32) I).bind fun q3 =>
  some q3
def zM_letters_128  (I : iq_I) : Option (Int64) :=
  (zM_spelled (100 : Int32) (97 : Int32) (121 : Int32) (0 : Int32) (0 : Int32) (0 : Int32) (0 : Int32) I).bind fun q4 =>
  some q4
def zM_letters_142  (I : iq_I) : Option (Int64) :=
  (zM_spelled (108 : Int32) (111 : Int32) (110 : Int32) (103 : Int32) (0 : Int32) (0 : Int32) (0 : Int32) I).bind fun q5 =>
  some q5
def zM_letters_157  (I : iq_I) : Option (Int64) :=
  (zM_spelled (115 : Int32) (97 : Int32) (109 : Int32) (101 : Int32) (0 : Int32) (0 : Int32) (0 : Int32) I).bind fun q6 =>
  some q6
def zM_letters_172  (I : iq_I) : Option (Int64) :=
  (zM_spelled (114 : Int32) (104 : Int32) (121 : Int32) (109 : Int32) (101 : Int32) (115 : Int32) (0 : Int32) I).bind fun q7 =>
  some q7
def zM_letters_189  (I : iq_I) : Option (Int64) :=
  (zM_spelled (115 : Int32) (116 : Int32) (97 : Int32) (116 : Int32) (101 : Int32) (0 : Int32) (0 : Int32) I).bind fun q8 =>
  some q8
def zM_letters_205  (I : iq_I) : Option (Int64) :=
  (zM_spelled (101 : Int32) (110 : Int32) (100 : Int32) (0 : Int32) (0 : Int32) (0 : Int32) (0 : Int32) I).bind fun q9 =>
  some q9
def zM_letters_219  (I : iq_I) : Option (Int64) :=
  (zM_spelled (97 : Int32) (114 : Int32) (99 : Int32) (0 : Int32) (0 : Int32) (0 : Int32) (0 : Int32) I).bind fun q10 =>
  some q10
def zM_letters_233  (I : iq_I) : Option (Int64) :=
  (zM_spelled (99 : Int32) (111 : Int32) (115 : Int32) (116 : Int32) (0 : Int32) (0 : Int32) (0 : Int32) I).bind fun q11 =>
  some q11
def zM_letters_248  (I : iq_I) : Option (Int64) :=
  (zM_spelled (115 : Int32) (97 : Int32) (121 : Int32) (105 : Int32) (110 : Int32) (103 : Int32) (0 : Int32) I).bind fun q12 =>
  some q12
def zM_letters_265  (I : iq_I) : Option (Int64) :=
  (zM_spelled (104 : Int32) (97 : Int32) (98 : Int32) (105 : Int32) (116 : Int32) (0 : Int32) (0 : Int32) I).bind fun q13 =>
  some q13
def zM_letters_281  (I : iq_I) : Option (Int64) :=
  (zM_spelled (108 : Int32) (97 : Int32) (119 : Int32) (0 : Int32) (0 : Int32) (0 : Int32) (0 : Int32) I).bind fun q14 =>
  some q14
def zM_letters_295  (I : iq_I) : Option (Int64) :=
  (zM_spelled (97 : Int32) (110 : Int32) (100 : Int32) (0 : Int32) (0 : Int32) (0 : Int32) (0 : Int32) I).bind fun q15 =>
  some q15
def zM_letters_309  (I : iq_I) : Option (Int64) :=
  (zM_spelled (111 : Int32) (114 : Int32) (0 : Int32) (0 : Int32) (0 : Int32) (0 : Int32) (0 : Int32) I).bind fun q16 =>
  some q16
def zM_letters_322  (I : iq_I) : Option (Int64) :=
  (zM_spelled (110 : Int32) (111 : Int32) (116 : Int32) (0 : Int32) (0 : Int32) (0 : Int32) (0 : Int32) I).bind fun q17 =>
  some q17
def zM_letters (x0 : Int32) (I : iq_I) : Option (Int64) :=
  if x0 = (0 : Int32) then (
    zM_letters_80 I) else (
  if x0 = (1 : Int32) then (
    zM_letters_95 I) else (
  if x0 = (2 : Int32) then (
    zM_letters_113 I) else (
  if x0 = (3 : Int32) then (
    zM_letters_128 I) else (
  if x0 = (4 : Int32) then (
    zM_letters_142 I) else (
  if x0 = (5 : Int32) then (
    zM_letters_157 I) else (
  if x0 = (6 : Int32) then (
    zM_letters_172 I) else (
  if x0 = (7 : Int32) then (
    zM_letters_189 I) else (
  if x0 = (8 : Int32) then (
    zM_letters_205 I) else (
  if x0 = (9 : Int32) then (
    zM_letters_219 I) else (
  if x0 = (10 : Int32) then (
    zM_letters_233 I) else (
  if x0 = (11 : Int32) then (
    zM_letters_248 I) else (
  if x0 = (12 : Int32) then (
    zM_letters_265 I) else (
  if x0 = (13 : Int32) then (
    zM_letters_281 I) else (
  if x0 = (14 : Int32) then (
    zM_letters_295 I) else (
  if x0 = (15 : Int32) then (
    zM_letters_309 I) else (
  zM_letters_322 I))))))))))))))))
def zM_knownWord_l21_b  (I : iq_I) (J : iq_J) (x1 : Int32)  : Option ((Int32) ⊕ ((Unit) ⊕ (Int32))) :=
  if (17 : Int32) ≤ x1 then (
    some (.inr (.inl ()))) else (
    (zM_letters x1 I).bind fun q1 =>
    if ¬ (lg_cmp q1 (J 76 28)) = 0 then (
      some (.inl (x1 + (1 : Int32)))) else (
      some (.inr (.inr x1))))
def zM_knownWord_l21  (I : iq_I) (J : iq_J) (n : Nat) (v : Int32) : Option ((Unit) ⊕ (Int32)) := iq_lp (fun v => zM_knownWord_l21_b I J v) n v
def zM_knownWord  (I : iq_I) (J : iq_J) : Option (Int32) :=
  if ¬ (I 76 23) = (1 : Int32) then (
    some (-1 : Int32)) else (
    if (I 76 25) ≤ (7 : Int32) then (
      (zM_knownWord_l21 I J ir_F (0 : Int32)).bind fun w2 =>
      ir_sm w2 (fun a3 =>
        some (-1 : Int32)) (fun b4 => some b4)) else (
      some (-1 : Int32)))
def zM_wrong (x1 : Int32) (I : iq_I) : Option (iq_I) :=
  if (I 76 18) = 0 then (
    ir_let (iq_upI I 76 18 x1) fun I1 =>
    ir_let (iq_upI I1 76 19 (I1 76 24)) fun I2 =>
    some I2) else (
    some I)
def zM_isSign (x1 : Int32) (I : iq_I) : Option (Int32) :=
  if ¬ (I 76 23) = (3 : Int32) then (
    some (0 : Int32)) else (
    if ¬ (I 76 27) = x1 then (
      some (0 : Int32)) else (
      some (1 : Int32)))
def zM_need (x1 : Int32) (I : iq_I) (J : iq_J) : Option (iq_I × iq_J) :=
  (zM_isGood I).bind fun q1 =>
  if ¬ q1 = 0 then (
    if x1 = 0 then (
      (zM_wrong (1 : Int32) I).bind fun q2 =>
      some (q2, J)) else (
      (zM_goes I J).bind fun q3 =>
      some (q3.1, q3.2))) else (
    some (I, J))
def zM_isRowOf_l17_b (x1 : Int32) (I : iq_I) (x2 : Int32)  : Option ((Int32) ⊕ ((Unit) ⊕ (Int32))) :=
  if (I 76 25) ≤ x2 then (
    some (.inr (.inl ()))) else (
    if iq_in (((9 : Int32) * x1) + x2) 126 then (
      (zM_byteAt ((I 76 24) + x2) I).bind fun q1 =>
      if (I 87 (Int32.toNatClampNeg (((9 : Int32) * x1) + x2))) = (q1 - (96 : Int32)) then (
        some (.inl (x2 + (1 : Int32)))) else (
        some (.inr (.inr (0 : Int32))))) else none)
def zM_isRowOf_l17 (x1 : Int32) (I : iq_I) (n : Nat) (v : Int32) : Option ((Unit) ⊕ (Int32)) := iq_lp (fun v => zM_isRowOf_l17_b x1 I v) n v
def zM_isRowOf (x1 : Int32) (I : iq_I) : Option (Int32) :=
  if iq_in x1 14 then (
    if (I 88 (Int32.toNatClampNeg x1)) = (I 76 25) then (
      (zM_isRowOf_l17 x1 I ir_F (0 : Int32)).bind fun w2 =>
      ir_sm w2 (fun a3 =>
        some (1 : Int32)) (fun b4 => some b4)) else (
      some (0 : Int32))) else none
def zM_numberHere_54  (I : iq_I) : Option (Int32 × iq_I) :=
  (zM_isGood I).bind fun q3 =>
  if q3 = 0 ∨ q3 = 1 then some (q3, I) else none
def zM_numberHere_49  (I : iq_I) : Option (Int32 × iq_I) :=
  (zM_wrong (2 : Int32) I).bind fun q2 =>
  zM_numberHere_54 q2
def zM_numberHere (x1 : Int32) (x2 : Int32) (I : iq_I) : Option (Int32 × iq_I) :=
  (zM_isGood I).bind fun q1 =>
  if ¬ q1 = 0 then (
    if (I 76 23) = (2 : Int32) then (
      if (4 : Int32) < (I 76 25) then (
        zM_numberHere_49 I) else (
        if (I 76 26) < x1 then (
          zM_numberHere_49 I) else (
          if (I 76 26) ≤ x2 then (
            zM_numberHere_54 I) else (
            zM_numberHere_49 I)))) else (
      (zM_wrong (1 : Int32) I).bind fun q4 =>
      zM_numberHere_54 q4)) else (
    some ((0 : Int32), I))
def zM_number_17 (s0 : Int32) (I : iq_I) (J : iq_J) : Option (Int32 × iq_I × iq_J) :=
  (zM_isGood I).bind fun q2 =>
  if q2 = 0 then (
    some (s0, I, J)) else (
    (zM_goes I J).bind fun q3 =>
    some (s0, q3.1, q3.2))
def zM_number (x1 : Int32) (x2 : Int32) (I : iq_I) (J : iq_J) : Option (Int32 × iq_I × iq_J) :=
  (zM_numberHere x1 x2 I).bind fun q1 =>
  if q1.1 = 0 then (
    zM_number_17 (0 : Int32) q1.2 J) else (
    zM_number_17 (q1.2 76 26) q1.2 J)
def zM_readsWord_l63_b (x1 : Int32) (J : iq_J) (x2 : Int32) (I : iq_I) : Option ((Int32 × iq_I) ⊕ (iq_I)) :=
  if x1 ≤ x2 then (
    some (.inr I)) else (
    (zM_isGood I).bind fun q3 =>
    if q3 = 0 then (
      some (.inr I)) else (
      (zM_isRowOf x2 I).bind fun q4 =>
      if q4 = 0 then (
        some (.inl ((x2 + (1 : Int32)), I))) else (
        (zM_wrong (4 : Int32) I).bind fun q5 =>
        some (.inl ((x2 + (1 : Int32)), q5)))))
def zM_readsWord_l63 (x1 : Int32) (J : iq_J) (n : Nat) (v : Int32 × iq_I) : Option (iq_I) := iq_lp (fun v => zM_readsWord_l63_b x1 J v.1 v.2) n v
def zM_readsWord_l114_b (x1 : Int32) (J : iq_J) (x2 : Int32) (I : iq_I) : Option ((Int32 × iq_I) ⊕ (iq_I)) :=
  if (I 76 25) ≤ x2 then (
    some (.inr I)) else (
    (zM_byteAt ((I 76 24) + x2) I).bind fun q9 =>
    if iq_in (((9 : Int32) * x1) + x2) 126 then (
      ir_let (iq_upI I 87 (Int32.toNatClampNeg (((9 : Int32) * x1) + x2)) (q9 - (96 : Int32))) fun I10 =>
      some (.inl ((x2 + (1 : Int32)), I10))) else none)
def zM_readsWord_l114 (x1 : Int32) (J : iq_J) (n : Nat) (v : Int32 × iq_I) : Option (iq_I) := iq_lp (fun v => zM_readsWord_l114_b x1 J v.1 v.2) n v
def zM_readsWord_94 (x1 : Int32) (I : iq_I) (J : iq_J) : Option (iq_I × iq_J) :=
  (zM_isGood I).bind fun q7 =>
  if ¬ q7 = 0 then (
    if iq_in x1 14 then (
      ir_let (iq_upI I 88 (Int32.toNatClampNeg x1) (I 76 25)) fun I8 =>
      (zM_readsWord_l114 x1 J ir_F ((0 : Int32), I8)).bind fun w11 =>
      (zM_goes w11 J).bind fun q12 =>
      (zM_number (0 : Int32) (7 : Int32) q12.1 q12.2).bind fun q13 =>
      if iq_in x1 14 then (
        ir_let (iq_upI q13.2.1 89 (Int32.toNatClampNeg x1) q13.1) fun I14 =>
        (zM_isGood I14).bind fun q15 =>
        if q15 = 0 then (
          some (I14, q13.2.2)) else (
          ir_let (iq_upI I14 76 30 ((I14 76 30) + (1 : Int32))) fun I16 =>
          some (I16, q13.2.2))) else none) else none) else (
    some (I, J))
def zM_readsWord_61 (x1 : Int32) (I : iq_I) (J : iq_J) : Option (iq_I × iq_J) :=
  (zM_readsWord_l63 x1 J ir_F ((0 : Int32), I)).bind fun w6 =>
  zM_readsWord_94 x1 w6 J
def zM_readsWord_14  (I : iq_I) (J : iq_J) : Option (iq_I × iq_J) :=
  (zM_isGood I).bind fun q1 =>
  if ¬ q1 = 0 then (
    (zM_goes I J).bind fun q2 =>
    if (q2.1 76 23) = (1 : Int32) then (
      if (q2.1 76 25) ≤ (9 : Int32) then (
        zM_readsWord_61 (q2.1 76 30) q2.1 q2.2) else (
        (zM_wrong (2 : Int32) q2.1).bind fun q17 =>
        zM_readsWord_61 (q2.1 76 30) q17 q2.2)) else (
      (zM_wrong (1 : Int32) q2.1).bind fun q18 =>
      zM_readsWord_61 (q2.1 76 30) q18 q2.2)) else (
    some (I, J))
def zM_readsWord  (I : iq_I) (J : iq_J) : Option (iq_I × iq_J) :=
  if ¬ (I 76 30) = (14 : Int32) then (
    zM_readsWord_14 I J) else (
    (zM_wrong (2 : Int32) I).bind fun q19 =>
    zM_readsWord_14 q19 J)
def zM_oneHere_54  (I : iq_I) : Option (Int32 × iq_I) :=
  (zM_isGood I).bind fun q2 =>
  if q2 = 0 then (
    some ((0 : Int32), I)) else (
    some ((I 76 26), I))
def zM_oneHere (x1 : Int32) (I : iq_I) : Option (Int32 × iq_I) :=
  (zM_isGood I).bind fun q1 =>
  if ¬ q1 = 0 then (
    if (I 76 23) = (2 : Int32) then (
      if (I 76 25) ≤ (4 : Int32) then (
        if (I 76 26) < x1 then (
          zM_oneHere_54 I) else (
          (zM_wrong (3 : Int32) I).bind fun q3 =>
          zM_oneHere_54 q3)) else (
        (zM_wrong (2 : Int32) I).bind fun q4 =>
        zM_oneHere_54 q4)) else (
      (zM_wrong (1 : Int32) I).bind fun q5 =>
      zM_oneHere_54 q5)) else (
    some ((0 : Int32), I))
def zM_one (x1 : Int32) (I : iq_I) (J : iq_J) : Option (Int32 × iq_I × iq_J) :=
  (zM_oneHere x1 I).bind fun q1 =>
  (zM_isGood q1.2).bind fun q2 =>
  if q2 = 0 then (
    some (q1.1, q1.2, J)) else (
    (zM_goes q1.2 J).bind fun q3 =>
    some (q1.1, q3.1, q3.2))
