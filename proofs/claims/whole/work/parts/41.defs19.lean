/-! ===== the methods as pure functions (printed by wip/whole/emitall.py, split.py) ===== -/
def zM_line_311  (I : iq_I) (J : iq_J) : Option (iq_I × iq_J) :=
  (zM_isSign (59 : Int32) I).bind fun q3 =>
  (zM_need q3 I J).bind fun q4 =>
  some (q4.1, q4.2)
def zM_line_279  (I : iq_I) (J : iq_J) : Option (iq_I × iq_J) :=
  (zM_isGood I).bind fun q5 =>
  if ¬ q5 = 0 then (
    (zM_goes I J).bind fun q6 =>
    ir_let (iq_upI q6.1 76 34 (q6.1 76 37)) fun I7 =>
    (zM_expression I7 q6.2).bind fun q8 =>
    zM_line_311 q8.1 q8.2) else (
    some (I, J))
def zM_line_218  (I : iq_I) (J : iq_J) : Option (iq_I × iq_J) :=
  (zM_isGood I).bind fun q10 =>
  if ¬ q10 = 0 then (
    (zM_goes I J).bind fun q11 =>
    if iq_in (q11.1 76 32) 4 then (
      ir_let (iq_upI q11.1 92 (Int32.toNatClampNeg (q11.1 76 32)) (q11.1 76 37)) fun I12 =>
      ir_let (iq_upI I12 76 32 ((I12 76 32) + (1 : Int32))) fun I13 =>
      (zM_expression I13 q11.2).bind fun q14 =>
      zM_line_311 q14.1 q14.2) else none) else (
    some (I, J))
def zM_line_146 (x2 : Int32) (I : iq_I) (J : iq_J) : Option (iq_I × iq_J) :=
  (zM_isGood I).bind fun q19 =>
  if ¬ q19 = 0 then (
    ir_let (iq_upI I 76 36 ((I 76 36) ||| ((1 : Int32) <<< (x2 &&& 31)))) fun I20 =>
    (zM_goes I20 J).bind fun q21 =>
    (zM_number (0 : Int32) (9 : Int32) q21.1 q21.2).bind fun q22 =>
    if iq_in x2 8 then (
      ir_let (iq_upI q22.2.1 91 (Int32.toNatClampNeg x2) q22.1) fun I23 =>
      zM_line_311 I23 q22.2.2) else none) else (
    some (I, J))
def zM_line_65  (I : iq_I) (J : iq_J) : Option (iq_I × iq_J) :=
  ir_let (iq_upI I 76 29 ((I 76 29) + (1 : Int32))) fun I30 =>
  zM_line_311 I30 J
def zM_line_25  (I : iq_I) (J : iq_J) : Option (iq_I × iq_J) :=
  (zM_isGood I).bind fun q27 =>
  if ¬ q27 = 0 then (
    (zM_goes I J).bind fun q28 =>
    (zM_knownWord q28.1 q28.2).bind fun q29 =>
    if ¬ q29 = (8 : Int32) then (
      zM_line_65 q28.1 q28.2) else (
      ir_let (iq_upI q28.1 76 35 ((q28.1 76 35) ||| ((1 : Int32) <<< ((q28.1 76 29) &&& 31)))) fun I31 =>
      (zM_goes I31 q28.2).bind fun q32 =>
      zM_line_65 q32.1 q32.2)) else (
    some (I, J))
def zM_line  (I : iq_I) (J : iq_J) : Option (iq_I × iq_J) :=
  (zM_knownWord I J).bind fun q1 =>
  if ¬ q1 = (7 : Int32) then (
    if ¬ q1 = (2 : Int32) then (
      if ¬ q1 = (9 : Int32) then (
        if ¬ q1 = (10 : Int32) then (
          if ¬ q1 = (11 : Int32) then (
            if ¬ q1 = (12 : Int32) then (
              if ¬ q1 = (13 : Int32) then (
                (zM_wrong (1 : Int32) I).bind fun q2 =>
                zM_line_311 q2 J) else (
                if (I 76 34) = (-1 : Int32) then (
                  zM_line_279 I J) else (
                  (zM_wrong (5 : Int32) I).bind fun q9 =>
                  zM_line_279 q9 J))) else (
              if ¬ (I 76 32) = (4 : Int32) then (
                zM_line_218 I J) else (
                (zM_wrong (2 : Int32) I).bind fun q15 =>
                zM_line_218 q15 J))) else (
            (zM_readsSaying I J).bind fun q16 =>
            zM_line_311 q16.1 q16.2)) else (
          (zM_goes I J).bind fun q17 =>
          (zM_numberHere (0 : Int32) (7 : Int32) q17.1).bind fun q18 =>
          if ¬ q18.1 = 0 then (
            if ¬ (((q18.2 76 36) >>> ((q18.2 76 26) &&& 31)) &&& (1 : Int32)) = (1 : Int32) then (
              zM_line_146 (q18.2 76 26) q18.2 q17.2) else (
              (zM_wrong (4 : Int32) q18.2).bind fun q24 =>
              zM_line_146 (q18.2 76 26) q24 q17.2)) else (
            some (q18.2, q17.2)))) else (
        (zM_readsArc I J).bind fun q25 =>
        zM_line_311 q25.1 q25.2)) else (
      (zM_readsWord I J).bind fun q26 =>
      zM_line_311 q26.1 q26.2)) else (
    if ¬ (I 76 29) = (10 : Int32) then (
      zM_line_25 I J) else (
      (zM_wrong (2 : Int32) I).bind fun q33 =>
      zM_line_25 q33 J))
def zM_copies_76_87_77_l2_b   (x3 : Int32) (I : iq_I) : Option ((Int32 × iq_I) ⊕ (iq_I)) :=
  if (126 : Int32) ≤ x3 then (
    some (.inr I)) else (
    if iq_in x3 126 then (
      if iq_in x3 126 then (
        ir_let (iq_upI I 77 (Int32.toNatClampNeg x3) (I 87 (Int32.toNatClampNeg x3))) fun I1 =>
        some (.inl ((x3 + (1 : Int32)), I1))) else none) else none)
def zM_copies_76_87_77_l2   (n : Nat) (v : Int32 × iq_I) : Option (iq_I) := iq_lp (fun v => zM_copies_76_87_77_l2_b  v.1 v.2) n v
def zM_copies_76_87_77  (I : iq_I) : Option (iq_I) :=
  (zM_copies_76_87_77_l2  ir_F ((0 : Int32), I)).bind fun w2 =>
  some w2
def zM_copies_76_88_78_l2_b   (x3 : Int32) (I : iq_I) : Option ((Int32 × iq_I) ⊕ (iq_I)) :=
  if (14 : Int32) ≤ x3 then (
    some (.inr I)) else (
    if iq_in x3 14 then (
      if iq_in x3 14 then (
        ir_let (iq_upI I 78 (Int32.toNatClampNeg x3) (I 88 (Int32.toNatClampNeg x3))) fun I1 =>
        some (.inl ((x3 + (1 : Int32)), I1))) else none) else none)
def zM_copies_76_88_78_l2   (n : Nat) (v : Int32 × iq_I) : Option (iq_I) := iq_lp (fun v => zM_copies_76_88_78_l2_b  v.1 v.2) n v
def zM_copies_76_88_78  (I : iq_I) : Option (iq_I) :=
  (zM_copies_76_88_78_l2  ir_F ((0 : Int32), I)).bind fun w2 =>
  some w2
def zM_copies_76_89_79_l2_b   (x3 : Int32) (I : iq_I) : Option ((Int32 × iq_I) ⊕ (iq_I)) :=
  if (14 : Int32) ≤ x3 then (
    some (.inr I)) else (
    if iq_in x3 14 then (
      if iq_in x3 14 then (
        ir_let (iq_upI I 79 (Int32.toNatClampNeg x3) (I 89 (Int32.toNatClampNeg x3))) fun I1 =>
        some (.inl ((x3 + (1 : Int32)), I1))) else none) else none)
def zM_copies_76_89_79_l2   (n : Nat) (v : Int32 × iq_I) : Option (iq_I) := iq_lp (fun v => zM_copies_76_89_79_l2_b  v.1 v.2) n v
def zM_copies_76_89_79  (I : iq_I) : Option (iq_I) :=
  (zM_copies_76_89_79_l2  ir_F ((0 : Int32), I)).bind fun w2 =>
  some w2
def zM_copies_76_90_80_l2_b   (x3 : Int32) (I : iq_I) : Option ((Int32 × iq_I) ⊕ (iq_I)) :=
  if (80 : Int32) ≤ x3 then (
    some (.inr I)) else (
    if iq_in x3 80 then (
      if iq_in x3 80 then (
        ir_let (iq_upI I 80 (Int32.toNatClampNeg x3) (I 90 (Int32.toNatClampNeg x3))) fun I1 =>
        some (.inl ((x3 + (1 : Int32)), I1))) else none) else none)
def zM_copies_76_90_80_l2   (n : Nat) (v : Int32 × iq_I) : Option (iq_I) := iq_lp (fun v => zM_copies_76_90_80_l2_b  v.1 v.2) n v
def zM_copies_76_90_80  (I : iq_I) : Option (iq_I) :=
  (zM_copies_76_90_80_l2  ir_F ((0 : Int32), I)).bind fun w2 =>
  some w2
def zM_copies_76_91_81_l2_b   (x3 : Int32) (I : iq_I) : Option ((Int32 × iq_I) ⊕ (iq_I)) :=
  if (8 : Int32) ≤ x3 then (
    some (.inr I)) else (
    if iq_in x3 8 then (
      if iq_in x3 8 then (
        ir_let (iq_upI I 81 (Int32.toNatClampNeg x3) (I 91 (Int32.toNatClampNeg x3))) fun I1 =>
        some (.inl ((x3 + (1 : Int32)), I1))) else none) else none)
def zM_copies_76_91_81_l2   (n : Nat) (v : Int32 × iq_I) : Option (iq_I) := iq_lp (fun v => zM_copies_76_91_81_l2_b  v.1 v.2) n v
def zM_copies_76_91_81  (I : iq_I) : Option (iq_I) :=
  (zM_copies_76_91_81_l2  ir_F ((0 : Int32), I)).bind fun w2 =>
  some w2
def zM_copies_76_92_82_l2_b   (x3 : Int32) (I : iq_I) : Option ((Int32 × iq_I) ⊕ (iq_I)) :=
  if (4 : Int32) ≤ x3 then (
    some (.inr I)) else (
    if iq_in x3 4 then (
      if iq_in x3 4 then (
        ir_let (iq_upI I 82 (Int32.toNatClampNeg x3) (I 92 (Int32.toNatClampNeg x3))) fun I1 =>
        some (.inl ((x3 + (1 : Int32)), I1))) else none) else none)
def zM_copies_76_92_82_l2   (n : Nat) (v : Int32 × iq_I) : Option (iq_I) := iq_lp (fun v => zM_copies_76_92_82_l2_b  v.1 v.2) n v
def zM_copies_76_92_82  (I : iq_I) : Option (iq_I) :=
  (zM_copies_76_92_82_l2  ir_F ((0 : Int32), I)).bind fun w2 =>
  some w2
def zM_copies_76_93_83_l2_b   (x3 : Int32) (I : iq_I) : Option ((Int32 × iq_I) ⊕ (iq_I)) :=
  if (5 : Int32) ≤ x3 then (
    some (.inr I)) else (
    if iq_in x3 5 then (
      if iq_in x3 5 then (
        ir_let (iq_upI I 83 (Int32.toNatClampNeg x3) (I 93 (Int32.toNatClampNeg x3))) fun I1 =>
        some (.inl ((x3 + (1 : Int32)), I1))) else none) else none)
def zM_copies_76_93_83_l2   (n : Nat) (v : Int32 × iq_I) : Option (iq_I) := iq_lp (fun v => zM_copies_76_93_83_l2_b  v.1 v.2) n v
def zM_copies_76_93_83  (I : iq_I) : Option (iq_I) :=
  (zM_copies_76_93_83_l2  ir_F ((0 : Int32), I)).bind fun w2 =>
  some w2
def zM_copies_76_95_84_l2_b   (x3 : Int32) (I : iq_I) : Option ((Int32 × iq_I) ⊕ (iq_I)) :=
  if (4000 : Int32) ≤ x3 then (
    some (.inr I)) else (
    if iq_in x3 4000 then (
      if iq_in x3 4000 then (
        ir_let (iq_upI I 84 (Int32.toNatClampNeg x3) (I 95 (Int32.toNatClampNeg x3))) fun I1 =>
        some (.inl ((x3 + (1 : Int32)), I1))) else none) else none)
def zM_copies_76_95_84_l2   (n : Nat) (v : Int32 × iq_I) : Option (iq_I) := iq_lp (fun v => zM_copies_76_95_84_l2_b  v.1 v.2) n v
def zM_copies_76_95_84  (I : iq_I) : Option (iq_I) :=
  (zM_copies_76_95_84_l2  ir_F ((0 : Int32), I)).bind fun w2 =>
  some w2
def zM_copies_76_94_98_l2_b   (x3 : Int32) (I : iq_I) : Option ((Int32 × iq_I) ⊕ (iq_I)) :=
  if (206 : Int32) ≤ x3 then (
    some (.inr I)) else (
    if iq_in x3 206 then (
      if iq_in x3 206 then (
        ir_let (iq_upI I 98 (Int32.toNatClampNeg x3) (I 94 (Int32.toNatClampNeg x3))) fun I1 =>
        some (.inl ((x3 + (1 : Int32)), I1))) else none) else none)
def zM_copies_76_94_98_l2   (n : Nat) (v : Int32 × iq_I) : Option (iq_I) := iq_lp (fun v => zM_copies_76_94_98_l2_b  v.1 v.2) n v
def zM_copies_76_94_98  (I : iq_I) : Option (iq_I) :=
  (zM_copies_76_94_98_l2  ir_F ((0 : Int32), I)).bind fun w2 =>
  some w2
def zM_museum_l104_b  (J : iq_J) (x2 : Int32) (I : iq_I) : Option ((Int32 × iq_I) ⊕ (iq_I)) :=
  if (80 : Int32) ≤ x2 then (
    some (.inr I)) else (
    if iq_in x2 80 then (
      ir_let (iq_upI I 90 (Int32.toNatClampNeg x2) (-1 : Int32)) fun I17 =>
      some (.inl ((x2 + (1 : Int32)), I17))) else none)
def zM_museum_l104  (J : iq_J) (n : Nat) (v : Int32 × iq_I) : Option (iq_I) := iq_lp (fun v => zM_museum_l104_b J v.1 v.2) n v
def zM_museum_l125_b  (J : iq_J) (x2 : Int32) (I : iq_I) : Option ((Int32 × iq_I) ⊕ (iq_I)) :=
  if (8 : Int32) ≤ x2 then (
    some (.inr I)) else (
    if iq_in x2 8 then (
      ir_let (iq_upI I 91 (Int32.toNatClampNeg x2) (1 : Int32)) fun I19 =>
      some (.inl ((x2 + (1 : Int32)), I19))) else none)
def zM_museum_l125  (J : iq_J) (n : Nat) (v : Int32 × iq_I) : Option (iq_I) := iq_lp (fun v => zM_museum_l125_b J v.1 v.2) n v
def zM_museum_l155_b    (I : iq_I) (J : iq_J) : Option ((iq_I × iq_J) ⊕ (iq_I × iq_J)) :=
  (zM_isGood I).bind fun q23 =>
  if q23 = 0 then (
    some (.inr (I, J))) else (
    if (I 76 23) = 0 then (
      some (.inr (I, J))) else (
      (zM_line I J).bind fun q24 =>
      some (.inl (q24.1, q24.2))))
def zM_museum_l155   (n : Nat) (v : iq_I × iq_J) : Option (iq_I × iq_J) := iq_lp (fun v => zM_museum_l155_b  v.1 v.2) n v
def zM_museum_176  (I : iq_I) (J : iq_J) : Option (Int32 × iq_I × iq_J) :=
  (zM_isGood I).bind fun q26 =>
  if ¬ q26 = 0 then (
    ir_let (iq_upI I 76 1 (I 76 29)) fun I27 =>
    ir_let (iq_upI I27 76 2 (I27 76 30)) fun I28 =>
    ir_let (iq_upI I28 76 3 (I28 76 31)) fun I29 =>
    ir_let (iq_upI I29 76 4 (I29 76 32)) fun I30 =>
    ir_let (iq_upI I30 76 5 (I30 76 33)) fun I31 =>
    ir_let (iq_upI I31 76 6 (I31 76 34)) fun I32 =>
    ir_let (iq_upI I32 76 7 (I32 76 35)) fun I33 =>
    (zM_copies_76_87_77 I33).bind fun q34 =>
    (zM_copies_76_88_78 q34).bind fun q35 =>
    (zM_copies_76_89_79 q35).bind fun q36 =>
    (zM_copies_76_90_80 q36).bind fun q37 =>
    (zM_copies_76_91_81 q37).bind fun q38 =>
    (zM_copies_76_92_82 q38).bind fun q39 =>
    (zM_copies_76_93_83 q39).bind fun q40 =>
    (zM_copies_76_95_84 q40).bind fun q41 =>
    (zM_copies_76_94_98 q41).bind fun q42 =>
    ir_let (iq_upI q42 76 54 (0 : Int32)) fun I43 =>
    ir_let (iq_upI I43 76 63 (0 : Int32)) fun I44 =>
    ir_let (iq_upI I44 76 68 (0 : Int32)) fun I45 =>
    some ((0 : Int32), I45, J)) else (
    ir_let (iq_upI I 86 0 ((I 86 0) + (1 : Int32))) fun I46 =>
    some ((I46 76 18), I46, J))
def zM_museum_23 (x1 : Int32) (s1 : Int32) (I : iq_I) (J : iq_J) : Option (Int32 × iq_I × iq_J) :=
  (zM_right s1 (1 : Int32) I).bind fun q2 =>
  if ¬ q2.1 = 0 then (
    ir_let (iq_upI q2.2 76 17 (0 : Int32)) fun I3 =>
    ir_let (iq_upI I3 76 19 (-1 : Int32)) fun I4 =>
    ir_let (iq_upI I4 76 18 (0 : Int32)) fun I5 =>
    ir_let (iq_upI I5 76 21 x1) fun I6 =>
    ir_let (iq_upI I6 76 22 (0 : Int32)) fun I7 =>
    ir_let (iq_upI I7 76 29 (0 : Int32)) fun I8 =>
    ir_let (iq_upI I8 76 30 (0 : Int32)) fun I9 =>
    ir_let (iq_upI I9 76 31 (0 : Int32)) fun I10 =>
    ir_let (iq_upI I10 76 32 (0 : Int32)) fun I11 =>
    ir_let (iq_upI I11 76 33 (0 : Int32)) fun I12 =>
    ir_let (iq_upI I12 76 34 (-1 : Int32)) fun I13 =>
    ir_let (iq_upI I13 76 35 (0 : Int32)) fun I14 =>
    ir_let (iq_upI I14 76 36 (0 : Int32)) fun I15 =>
    ir_let (iq_upI I15 76 37 (0 : Int32)) fun I16 =>
    (zM_museum_l104 J ir_F ((0 : Int32), I16)).bind fun w18 =>
    (zM_museum_l125 J ir_F ((0 : Int32), w18)).bind fun w20 =>
    ir_let (iq_upI w20 94 5 (0 : Int32)) fun I21 =>
    (zM_goes I21 J).bind fun q22 =>
    (zM_museum_l155  ir_F (q22.1, q22.2)).bind fun w25 =>
    zM_museum_176 w25.1 w25.2) else (
    some ((0 : Int32), q2.2, J))
def zM_museum_22 (x1 : Int32) (I : iq_I) (J : iq_J) : Option (Int32 × iq_I × iq_J) :=
  zM_museum_23 x1 (0 : Int32) I J
def zM_museum (x1 : Int32) (I : iq_I) (J : iq_J) : Option (Int32 × iq_I × iq_J) :=
  ir_let (iq_upI I 76 0 (0 : Int32)) fun I1 =>
  if x1 < 0 then (
    zM_museum_22 x1 I1 J) else (
    if (I1 76 17) < x1 then (
      zM_museum_22 x1 I1 J) else (
      zM_museum_23 x1 (1 : Int32) I1 J))
def zO_tapeNumber_l3_b (x1 : Int32)  (x2 : Int32) (I : iq_I) : Option ((Int32 × iq_I) ⊕ (iq_I)) :=
  if x2 < 0 then (
    some (.inr I)) else (
    if (700 : Int32) ≤ (I 1 11) then (
      some (.inl ((x2 + (-8 : Int32)), I))) else (
      if iq_in (I 1 11) 700 then (
        ir_let (iq_upI I 2 (Int32.toNatClampNeg (I 1 11)) ((ir_ushr x1 x2) &&& (255 : Int32))) fun I1 =>
        ir_let (iq_upI I1 1 11 ((I1 1 11) + (1 : Int32))) fun I2 =>
        some (.inl ((x2 + (-8 : Int32)), I2))) else none))
def zO_tapeNumber_l3 (x1 : Int32)  (n : Nat) (v : Int32 × iq_I) : Option (iq_I) := iq_lp (fun v => zO_tapeNumber_l3_b x1 v.1 v.2) n v
def zO_tapeNumber (x1 : Int32) (I : iq_I) : Option (iq_I) :=
  (zO_tapeNumber_l3 x1 ir_F ((24 : Int32), I)).bind fun w3 =>
  some w3
def zO_feed (x1 : Int32) (x2 : Int32) (x3 : Int32) (x4 : Int32) (x5 : Int32) (I : iq_I) : Option (Int32 × iq_I) :=
  if ((I 1 11) + (20 : Int32)) ≤ (700 : Int32) then (
    (zO_tapeNumber x1 I).bind fun q1 =>
    (zO_tapeNumber x2 q1).bind fun q2 =>
    (zO_tapeNumber x3 q2).bind fun q3 =>
    (zO_tapeNumber x4 q3).bind fun q4 =>
    (zO_tapeNumber x5 q4).bind fun q5 =>
    some ((q5 1 11), q5)) else (
    some ((-1 : Int32), I))
def zM_lays_l3_b (x1 : Int32)  (x2 : Int32) (I : iq_I) : Option ((Int32 × iq_I) ⊕ (iq_I)) :=
  if x2 < 0 then (
    some (.inr I)) else (
    if iq_in (I 76 17) 700 then (
      ir_let (iq_upI I 85 (Int32.toNatClampNeg (I 76 17)) ((x1 >>> (x2 &&& 31)) &&& (255 : Int32))) fun I1 =>
      ir_let (iq_upI I1 76 17 ((I1 76 17) + (1 : Int32))) fun I2 =>
      some (.inl ((x2 + (-8 : Int32)), I2))) else none)
def zM_lays_l3 (x1 : Int32)  (n : Nat) (v : Int32 × iq_I) : Option (iq_I) := iq_lp (fun v => zM_lays_l3_b x1 v.1 v.2) n v
def zM_lays (x1 : Int32) (I : iq_I) : Option (iq_I) :=
  (zM_lays_l3 x1 ir_F ((24 : Int32), I)).bind fun w3 =>
  some w3
def zM_feed (x1 : Int32) (x2 : Int32) (x3 : Int32) (x4 : Int32) (x5 : Int32) (I : iq_I) : Option (Int32 × iq_I) :=
  ir_let (iq_upI I 76 0 (0 : Int32)) fun I1 =>
  if ((I1 76 17) + (20 : Int32)) ≤ (700 : Int32) then (
    (zM_lays x1 I1).bind fun q2 =>
    (zM_lays x2 q2).bind fun q3 =>
    (zM_lays x3 q3).bind fun q4 =>
    (zM_lays x4 q4).bind fun q5 =>
    (zM_lays x5 q5).bind fun q6 =>
    some ((q6 76 17), q6)) else (
    some ((-1 : Int32), I1))
