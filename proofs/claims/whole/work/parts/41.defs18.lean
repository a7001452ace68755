/-! ===== the methods as pure functions (printed by wip/whole/emitall.py, split.py) ===== -/
def zM_operand_50 (x2 : Int32) (x4 : Int32) (I : iq_I) (J : iq_J) : Option ((Int32 × iq_I × iq_J) ⊕ (iq_I × iq_J)) :=
  (zM_isGood I).bind fun q4 =>
  if ¬ q4 = 0 then (
    (zM_waitsFor (3 : Int32) I).bind fun q5 =>
    (zM_goes q5 J).bind fun q6 =>
    some (.inl ((x4 + (1 : Int32)), q6.1, q6.2))) else (
    some (.inl ((x4 + (1 : Int32)), I, J)))
def zM_operand_l18_b (x2 : Int32)  (x4 : Int32) (I : iq_I) (J : iq_J) : Option ((Int32 × iq_I × iq_J) ⊕ (iq_I × iq_J)) :=
  (zM_isGood I).bind fun q2 =>
  if q2 = 0 then (
    some (.inr (I, J))) else (
    if x2 = 0 then (
      some (.inr (I, J))) else (
      (zM_knownWord I J).bind fun q3 =>
      if ¬ q3 = (16 : Int32) then (
        some (.inr (I, J))) else (
        if ¬ x4 = (6 : Int32) then (
          zM_operand_50 x2 x4 I J) else (
          (zM_wrong (2 : Int32) I).bind fun q7 =>
          zM_operand_50 x2 x4 q7 J))))
def zM_operand_l18 (x2 : Int32)  (n : Nat) (v : Int32 × iq_I × iq_J) : Option (iq_I × iq_J) := iq_lp (fun v => zM_operand_l18_b x2 v.1 v.2.1 v.2.2) n v
def zM_operand_96 (x2 : Int32) (s0 : Int32) (I : iq_I) (J : iq_J) : Option ((Int32 × Int32 × iq_I × iq_J) ⊕ (iq_I × iq_J)) :=
  if s0 = 0 then (
    some (.inl (x2, s0, I, J))) else (
    (zM_waitsFor (14 : Int32) I).bind fun q10 =>
    (zM_goes q10 J).bind fun q11 =>
    (zM_deeper q11.1).bind fun q12 =>
    some (.inl ((1 : Int32), s0, q12, q11.2)))
def zM_operand_95 (x2 : Int32) (I : iq_I) (J : iq_J) : Option ((Int32 × Int32 × iq_I × iq_J) ⊕ (iq_I × iq_J)) :=
  zM_operand_96 x2 (0 : Int32) I J
def zM_operand_75 (x2 : Int32) (I : iq_I) (J : iq_J) : Option ((Int32 × Int32 × iq_I × iq_J) ⊕ (iq_I × iq_J)) :=
  (zM_isGood I).bind fun q9 =>
  if q9 = 0 then (
    zM_operand_95 x2 I J) else (
    (zM_isSign (40 : Int32) I).bind fun q13 =>
    if q13 = 0 then (
      zM_operand_95 x2 I J) else (
      zM_operand_96 x2 (1 : Int32) I J))
def zM_operand_l4_b   (x2 : Int32) (x3 : Int32) (I : iq_I) (J : iq_J) : Option ((Int32 × Int32 × iq_I × iq_J) ⊕ (iq_I × iq_J)) :=
  if x3 = 0 then (
    some (.inr (I, J))) else (
    (zM_isGood I).bind fun q1 =>
    if q1 = 0 then (
      some (.inr (I, J))) else (
      (zM_operand_l18 x2 ir_F ((0 : Int32), I, J)).bind fun w8 =>
      zM_operand_75 x2 w8.1 w8.2))
def zM_operand_l4   (n : Nat) (v : Int32 × Int32 × iq_I × iq_J) : Option (iq_I × iq_J) := iq_lp (fun v => zM_operand_l4_b  v.1 v.2.1 v.2.2.1 v.2.2.2) n v
def zM_operand_120  (I : iq_I) (J : iq_J) : Option (iq_I × iq_J) :=
  (zM_part I J).bind fun q15 =>
  some (q15.1, q15.2)
def zM_operand (x1 : Int32) (I : iq_I) (J : iq_J) : Option (iq_I × iq_J) :=
  (zM_operand_l4  ir_F (x1, (1 : Int32), I, J)).bind fun w14 =>
  zM_operand_120 w14.1 w14.2
def zM_isOpen (x0 : Int32) (I : iq_I) : Option (Int32) :=
  if x0 < (14 : Int32) then (
    some (0 : Int32)) else (
    some (1 : Int32))
def zM_strength (x0 : Int32) (I : iq_I) : Option (Int32) :=
  if ¬ x0 = (5 : Int32) then (
    if ¬ x0 = (4 : Int32) then (
      if ¬ x0 = (3 : Int32) then (
        if x0 = (6 : Int32) then (
          some (4 : Int32)) else (
          if ¬ x0 = (7 : Int32) then (
            if x0 = (8 : Int32) then (
              some (5 : Int32)) else (
              if ¬ x0 = (9 : Int32) then (
                some (6 : Int32)) else (
                some (5 : Int32)))) else (
            some (4 : Int32)))) else (
        some (3 : Int32))) else (
      some (2 : Int32))) else (
    some (1 : Int32))
def zM_drops_l0_b (x1 : Int32)   (I : iq_I) : Option ((iq_I) ⊕ (iq_I)) :=
  if (I 76 38) ≤ 0 then (
    some (.inr I)) else (
    if iq_in ((I 76 38) - (1 : Int32)) 950 then (
      (zM_isOpen (I 96 (Int32.toNatClampNeg ((I 76 38) - (1 : Int32)))) I).bind fun q1 =>
      if ¬ q1 = 0 then (
        some (.inr I)) else (
        if iq_in ((I 76 38) - (1 : Int32)) 950 then (
          (zM_strength (I 96 (Int32.toNatClampNeg ((I 76 38) - (1 : Int32)))) I).bind fun q2 =>
          if q2 < x1 then (
            some (.inr I)) else (
            ir_let (iq_upI I 76 38 ((I 76 38) - (1 : Int32))) fun I3 =>
            if iq_in (I3 76 38) 950 then (
              (zM_puts (I3 96 (Int32.toNatClampNeg (I3 76 38))) I3).bind fun q4 =>
              some (.inl q4)) else none)) else none)) else none)
def zM_drops_l0 (x1 : Int32)  (n : Nat) (v : iq_I) : Option (iq_I) := iq_lp (fun v => zM_drops_l0_b x1 v) n v
def zM_drops (x1 : Int32) (I : iq_I) : Option (iq_I) :=
  (zM_drops_l0 x1 ir_F I).bind fun w5 =>
  some w5
def zM_isOpened_l7_b  (I : iq_I) (x1 : Int32)  : Option ((Int32) ⊕ (Int32)) :=
  if x1 < 0 then (
    some (.inr x1)) else (
    if iq_in x1 950 then (
      (zM_isOpen (I 96 (Int32.toNatClampNeg x1)) I).bind fun q1 =>
      if ¬ q1 = 0 then (
        some (.inr x1)) else (
        some (.inl (x1 + (-1 : Int32))))) else none)
def zM_isOpened_l7  (I : iq_I) (n : Nat) (v : Int32) : Option (Int32) := iq_lp (fun v => zM_isOpened_l7_b I v) n v
def zM_isOpened_29 (x1 : Int32) (I : iq_I) : Option (Int32) :=
  if x1 < 0 then (
    some (0 : Int32)) else (
    some (1 : Int32))
def zM_isOpened  (I : iq_I) : Option (Int32) :=
  (zM_isOpened_l7 I ir_F ((I 76 38) - (1 : Int32))).bind fun w2 =>
  zM_isOpened_29 w2 I
def zM_closes  (I : iq_I) (J : iq_J) : Option (iq_I × iq_J) :=
  (zM_drops (0 : Int32) I).bind fun q1 =>
  ir_let (iq_upI q1 76 38 ((q1 76 38) - (1 : Int32))) fun I2 =>
  ir_let (iq_upI I2 76 39 ((I2 76 39) - (1 : Int32))) fun I3 =>
  (zM_goes I3 J).bind fun q4 =>
  some (q4.1, q4.2)
def zM_expression_84 (x1 : Int32) (s1 : Int32) (I : iq_I) (J : iq_J) : Option ((Int32 × iq_I × iq_J) ⊕ (iq_I × iq_J)) :=
  (zM_waitsFor s1 I).bind fun q9 =>
  if iq_in (q9 76 39) 9 ∧ ((0 : Int32) = 0 ∨ (0 : Int32) = 1) then (
    ir_let (iq_upI q9 97 (Int32.toNatClampNeg (q9 76 39)) (0 : Int32)) fun I10 =>
    (zM_goes I10 J).bind fun q11 =>
    (zM_operand (1 : Int32) q11.1 q11.2).bind fun q12 =>
    some (.inl (x1, q12.1, q12.2))) else none
def zM_expression_69 (x1 : Int32) (x2 : Int32) (s1 : Int32) (I : iq_I) (J : iq_J) : Option ((Int32 × iq_I × iq_J) ⊕ (iq_I × iq_J)) :=
  (zM_drops s1 I).bind fun q8 =>
  if ¬ x2 = (14 : Int32) then (
    zM_expression_84 x1 (5 : Int32) q8 J) else (
    zM_expression_84 x1 (4 : Int32) q8 J)
def zM_expression_57 (x1 : Int32) (x2 : Int32) (I : iq_I) (J : iq_J) : Option ((Int32 × iq_I × iq_J) ⊕ (iq_I × iq_J)) :=
  if ¬ x2 = (14 : Int32) then (
    zM_expression_69 x1 x2 (1 : Int32) I J) else (
    zM_expression_69 x1 x2 (2 : Int32) I J)
def zM_expression_226 (x1 : Int32) (s1 : Int32) (I : iq_I) (J : iq_J) : Option ((Int32 × iq_I × iq_J) ⊕ (iq_I × iq_J)) :=
  (zM_waitsFor s1 I).bind fun q17 =>
  (zM_goes q17 J).bind fun q18 =>
  (zM_operand (0 : Int32) q18.1 q18.2).bind fun q19 =>
  some (.inl (x1, q19.1, q19.2))
def zM_expression_204 (x1 : Int32) (I : iq_I) (J : iq_J) : Option ((Int32 × iq_I × iq_J) ⊕ (iq_I × iq_J)) :=
  (zM_drops (5 : Int32) I).bind fun q15 =>
  (zM_isSign (43 : Int32) q15).bind fun q16 =>
  if q16 = 0 then (
    zM_expression_226 x1 (9 : Int32) q15 J) else (
    zM_expression_226 x1 (8 : Int32) q15 J)
def zM_expression_282 (x1 : Int32) (s1 : Int32) (I : iq_I) (J : iq_J) : Option ((Int32 × iq_I × iq_J) ⊕ (iq_I × iq_J)) :=
  (zM_waitsFor s1 I).bind fun q24 =>
  (zM_goes q24 J).bind fun q25 =>
  (zM_operand (0 : Int32) q25.1 q25.2).bind fun q26 =>
  some (.inl (x1, q26.1, q26.2))
def zM_expression_259 (x1 : Int32) (I : iq_I) (J : iq_J) : Option ((Int32 × iq_I × iq_J) ⊕ (iq_I × iq_J)) :=
  (zM_drops (6 : Int32) I).bind fun q22 =>
  (zM_isSign (42 : Int32) q22).bind fun q23 =>
  if q23 = 0 then (
    zM_expression_282 x1 (11 : Int32) q22 J) else (
    zM_expression_282 x1 (10 : Int32) q22 J)
def zM_expression_186 (x1 : Int32) (I : iq_I) (J : iq_J) : Option ((Int32 × iq_I × iq_J) ⊕ (iq_I × iq_J)) :=
  (zM_isSign (43 : Int32) I).bind fun q14 =>
  if ¬ q14 = 0 then (
    zM_expression_204 x1 I J) else (
    (zM_isSign (45 : Int32) I).bind fun q20 =>
    if q20 = 0 then (
      (zM_isSign (42 : Int32) I).bind fun q21 =>
      if ¬ q21 = 0 then (
        zM_expression_259 x1 I J) else (
        (zM_isSign (47 : Int32) I).bind fun q27 =>
        if q27 = 0 then (
          (zM_isSign (41 : Int32) I).bind fun q28 =>
          if q28 = 0 then (
            some (.inl ((0 : Int32), I, J))) else (
            (zM_isOpened I).bind fun q29 =>
            if q29 = 0 then (
              some (.inl ((0 : Int32), I, J))) else (
              (zM_closes I J).bind fun q30 =>
              some (.inl (x1, q30.1, q30.2))))) else (
          zM_expression_259 x1 I J))) else (
      zM_expression_204 x1 I J))
def zM_expression_161 (x1 : Int32) (s1 : Int32) (I : iq_I) (J : iq_J) : Option ((Int32 × iq_I × iq_J) ⊕ (iq_I × iq_J)) :=
  (zM_waitsFor s1 I).bind fun q33 =>
  if iq_in (q33 76 39) 9 ∧ ((1 : Int32) = 0 ∨ (1 : Int32) = 1) then (
    ir_let (iq_upI q33 97 (Int32.toNatClampNeg (q33 76 39)) (1 : Int32)) fun I34 =>
    (zM_goes I34 J).bind fun q35 =>
    (zM_operand (0 : Int32) q35.1 q35.2).bind fun q36 =>
    some (.inl (x1, q36.1, q36.2))) else none
def zM_expression_127 (x1 : Int32) (I : iq_I) (J : iq_J) : Option ((Int32 × iq_I × iq_J) ⊕ (iq_I × iq_J)) :=
  if iq_in (I 76 39) 9 then (
    if ¬ (I 97 (Int32.toNatClampNeg (I 76 39))) = 0 then (
      zM_expression_186 x1 I J) else (
      (zM_drops (4 : Int32) I).bind fun q31 =>
      (zM_isSign (60 : Int32) q31).bind fun q32 =>
      if q32 = 0 then (
        zM_expression_161 x1 (7 : Int32) q31 J) else (
        zM_expression_161 x1 (6 : Int32) q31 J))) else none
def zM_expression_l29_b   (x1 : Int32) (I : iq_I) (J : iq_J) : Option ((Int32 × iq_I × iq_J) ⊕ (iq_I × iq_J)) :=
  if x1 = 0 then (
    some (.inr (I, J))) else (
    (zM_isGood I).bind fun q6 =>
    if q6 = 0 then (
      some (.inr (I, J))) else (
      (zM_knownWord I J).bind fun q7 =>
      if q7 = (14 : Int32) then (
        zM_expression_57 x1 q7 I J) else (
        if ¬ q7 = (15 : Int32) then (
          (zM_isSign (60 : Int32) I).bind fun q13 =>
          if ¬ q13 = 0 then (
            zM_expression_127 x1 I J) else (
            (zM_isSign (61 : Int32) I).bind fun q37 =>
            if q37 = 0 then (
              zM_expression_186 x1 I J) else (
              zM_expression_127 x1 I J))) else (
          zM_expression_57 x1 q7 I J))))
def zM_expression_l29   (n : Nat) (v : Int32 × iq_I × iq_J) : Option (iq_I × iq_J) := iq_lp (fun v => zM_expression_l29_b  v.1 v.2.1 v.2.2) n v
def zM_expression_345  (I : iq_I) (J : iq_J) : Option (iq_I × iq_J) :=
  (zM_drops (0 : Int32) I).bind fun q40 =>
  (zM_puts (0 : Int32) q40).bind fun q41 =>
  some (q41, J)
def zM_expression_325  (I : iq_I) (J : iq_J) : Option (iq_I × iq_J) :=
  (zM_isGood I).bind fun q39 =>
  if q39 = 0 then (
    zM_expression_345 I J) else (
    if (I 76 39) ≤ (1 : Int32) then (
      zM_expression_345 I J) else (
      (zM_wrong (1 : Int32) I).bind fun q42 =>
      zM_expression_345 q42 J))
def zM_expression  (I : iq_I) (J : iq_J) : Option (iq_I × iq_J) :=
  (zM_isGood I).bind fun q1 =>
  if ¬ q1 = 0 then (
    ir_let (iq_upI I 76 38 (0 : Int32)) fun I2 =>
    ir_let (iq_upI I2 76 39 (0 : Int32)) fun I3 =>
    (zM_deeper I3).bind fun q4 =>
    (zM_operand (1 : Int32) q4 J).bind fun q5 =>
    (zM_expression_l29  ir_F ((1 : Int32), q5.1, q5.2)).bind fun w38 =>
    zM_expression_325 w38.1 w38.2) else (
    some (I, J))
def zM_line_311  (I : iq_I) (J : iq_J) : Option (iq_I × iq_J) :=
  (zM_isSign (59 : Int32) I).bind fun q3 =>
  (zM_need q3 I J).bind fun q4 =>
  some (q4.1, q4.2)
def zM_line_279  (I : iq_I) (J : iq_J) : Option (iq_I × iq_J) :=
  (zM_isGood I).bind fun q5 =>
  if ¬ q5 = 0 then (
    (zM_goes I J).bind fun q6 =>
    ir_let (iq_upI q6.1 76 34 (q6.1 76 37)) fun I7 =>
    (zM_expression I7 q6.2).bind fun q8 =>
    zM_line_311 q8.1 q8.2) else (
    some (I, J))
def zM_line_218  (I : iq_I) (J : iq_J) : Option (iq_I × iq_J) :=
  (zM_isGood I).bind fun q10 =>
  if ¬ q10 = 0 then (
    (zM_goes I J).bind fun q11 =>
    if iq_in (q11.1 76 32) 4 then (
      ir_let (iq_upI q11.1 92 (Int32.toNatClampNeg (q11.1 76 32)) (q11.1 76 37)) fun I12 =>
      ir_let (iq_upI I12 76 32 ((I12 76 32) + (1 : Int32))) fun I13 =>
      (zM_expression I13 q11.2).bind fun q14 =>
      zM_line_311 q14.1 q14.2) else none) else (
    some (I, J))
def zM_line_146 (x2 : Int32) (I : iq_I) (J : iq_J) : Option (iq_I × iq_J) :=
  (zM_isGood I).bind fun q19 =>
  if ¬ q19 = 0 then (
    ir_let (iq_upI I 76 36 ((I 76 36) ||| ((1 : Int32) <<< (x2 &&& 31)))) fun I20 =>
    (zM_goes I20 J).bind fun q21 =>
    (zM_number (0 : Int32) (9 : Int32) q21.1 q21.2).bind fun q22 =>
    if iq_in x2 8 then (
      ir_let (iq_upI q22.2.1 91 (Int32.toNatClampNeg x2) q22.1) fun I23 =>
      zM_line_311 I23 q22.2.2) else none) else (
    some (I, J))
def zM_line_65  (I : iq_I) (J : iq_J) : Option (iq_I × iq_J) :=
  ir_let (iq_upI I 76 29 ((I 76 29) + (1 : Int32))) fun I30 =>
  zM_line_311 I30 J
def zM_line_25  (I : iq_I) (J : iq_J) : Option (iq_I × iq_J) :=
  (zM_isGood I).bind fun q27 =>
  if ¬ q27 = 0 then (
    (zM_goes I J).bind fun q28 =>
    (zM_knownWord q28.1 q28.2).bind fun q29 =>
    if ¬ q29 = (8 : Int32) then (
      zM_line_65 q28.1 q28.2) else (
      ir_let (iq_upI q28.1 76 35 ((q28.1 76 35) ||| ((1 : Int32) <<< ((q28.1 76 29) &&& 31)))) fun I31 =>
      (zM_goes I31 q28.2).bind fun q32 =>
      zM_line_65 q32.1 q32.2)) else (
    some (I, J))
def zM_line  (I : iq_I) (J : iq_J) : Option (iq_I × iq_J) :=
  (zM_knownWord I J).bind fun q1 =>
  if ¬ q1 = (7 : Int32) then (
    if ¬ q1 = (2 : Int32) then (
      if ¬ q1 = (9 : Int32) then (
        if ¬ q1 = (10 : Int32) then (
          if ¬ q1 = (11 : Int32) then (
            if ¬ q1 = (12 : Int32) then (
              if ¬ q1 = (13 : Int32) then (
                (zM_wrong (1 : Int32) I).bind fun q2 =>
                zM_line_311 q2 J) else (
                if (I 76 34) = (-1 : Int32) then (
                  zM_line_279 I J) else (
                  (zM_wrong (5 : Int32) I).bind fun q9 =>
                  zM_line_279 q9 J))) else (
              if ¬ (I 76 32) = (4 : Int32) then (
                zM_line_218 I J) else (
                (zM_wrong (2 : Int32) I).bind fun q15 =>
                zM_line_218 q15 J))) else (
            (zM_readsSaying I J).bind fun q16 =>
            zM_line_311 q16.1 q16.2)) else (
          (zM_goes I J).bind fun q17 =>
          (zM_numberHere (0 : Int32) (7 : Int32) q17.1).bind fun q18 =>
          if ¬ q18.1 = 0 then (
            if ¬ (((q18.2 76 36) >>> ((q18.2 76 26) &&& 31)) &&& (1 : Int32)) = (1 : Int32) then (
              zM_line_146 (q18.2 76 26) q18.2 q17.2) else (
              (zM_wrong (4 : Int32) q18.2).bind fun q24 =>
              zM_line_146 (q18.2 76 26) q24 q17.2)) else (
            some (q18.2, q17.2)))) else (
        (zM_readsArc I J).bind fun q25 =>
        zM_line_311 q25.1 q25.2)) else (
      (zM_readsWord I J).bind fun q26 =>
      zM_line_311 q26.1 q26.2)) else (
    if ¬ (I 76 29) = (10 : Int32) then (
      zM_line_25 I J) else (
      (zM_wrong (2 : Int32) I).bind fun q33 =>
      zM_line_25 q33 J))
def zM_copies_76_87_77_l2_b   (x3 : Int32) (I : iq_I) : Option ((Int32 × iq_I) ⊕ (iq_I)) :=
  if (126 : Int32) ≤ x3 then (
    some (.inr I)) else (
    if iq_in x3 126 then (
      if iq_in x3 126 then (
        ir_let (iq_upI I 77 (Int32.toNatClampNeg x3) (I 87 (Int32.toNatClampNeg x3))) fun I1 =>
        some (.inl ((x3 + (1 : Int32)), I1))) else none) else none)
def zM_copies_76_87_77_l2   (n : Nat) (v : Int32 × iq_I) : Option (iq_I) := iq_lp (fun v => zM_copies_76_87_77_l2_b  v.1 v.2) n v
def zM_copies_76_87_77  (I : iq_I) : Option (iq_I) :=
  (zM_copies_76_87_77_l2  ir_F ((0 : Int32), I)).bind fun w2 =>
  some w2
def zM_copies_76_88_78_l2_b   (x3 : Int32) (I : iq_I) : Option ((Int32 × iq_I) ⊕ (iq_I)) :=
  if (14 : Int32) ≤ x3 then (
    some (.inr I)) else (
    if iq_in x3 14 then (
      if iq_in x3 14 then (
        ir_let (iq_upI I 78 (Int32.toNatClampNeg x3) (I 88 (Int32.toNatClampNeg x3))) fun I1 =>
        some (.inl ((x3 + (1 : Int32)), I1))) else none) else none)
def zM_copies_76_88_78_l2   (n : Nat) (v : Int32 × iq_I) : Option (iq_I) := iq_lp (fun v => zM_copies_76_88_78_l2_b  v.1 v.2) n v
def zM_copies_76_88_78  (I : iq_I) : Option (iq_I) :=
  (zM_copies_76_88_78_l2  ir_F ((0 : Int32), I)).bind fun w2 =>
  some w2
def zM_copies_76_89_79_l2_b   (x3 : Int32) (I : iq_I) : Option ((Int32 × iq_I) ⊕ (iq_I)) :=
  if (14 : Int32) ≤ x3 then (
    some (.inr I)) else (
    if iq_in x3 14 then (
      if iq_in x3 14 then (
        ir_let (iq_upI I 79 (Int32.toNatClampNeg x3) (I 89 (Int32.toNatClampNeg x3))) fun I1 =>
        some (.inl ((x3 + (1 : Int32)), I1))) else none) else none)
def zM_copies_76_89_79_l2   (n : Nat) (v : Int32 × iq_I) : Option (iq_I) := iq_lp (fun v => zM_copies_76_89_79_l2_b  v.1 v.2) n v
def zM_copies_76_89_79  (I : iq_I) : Option (iq_I) :=
  (zM_copies_76_89_79_l2  ir_F ((0 : Int32), I)).bind fun w2 =>
  some w2
def zM_copies_76_90_80_l2_b   (x3 : Int32) (I : iq_I) : Option ((Int32 × iq_I) ⊕ (iq_I)) :=
  if (80 : Int32) ≤ x3 then (
    some (.inr I)) else (
    if iq_in x3 80 then (
      if iq_in x3 80 then (
        ir_let (iq_upI I 80 (Int32.toNatClampNeg x3) (I 90 (Int32.toNatClampNeg x3))) fun I1 =>
        some (.inl ((x3 + (1 : Int32)), I1))) else none) else none)
def zM_copies_76_90_80_l2   (n : Nat) (v : Int32 × iq_I) : Option (iq_I) := iq_lp (fun v => zM_copies_76_90_80_l2_b  v.1 v.2) n v
def zM_copies_76_90_80  (I : iq_I) : Option (iq_I) :=
  (zM_copies_76_90_80_l2  ir_F ((0 : Int32), I)).bind fun w2 =>
  some w2
def zM_copies_76_91_81_l2_b   (x3 : Int32) (I : iq_I) : Option ((Int32 × iq_I) ⊕ (iq_I)) :=
  if (8 : Int32) ≤ x3 then (
    some (.inr I)) else (
    if iq_in x3 8 then (
      if iq_in x3 8 then (
        ir_let (iq_upI I 81 (Int32.toNatClampNeg x3) (I 91 (Int32.toNatClampNeg x3))) fun I1 =>
        some (.inl ((x3 + (1 : Int32)), I1))) else none) else none)
def zM_copies_76_91_81_l2   (n : Nat) (v : Int32 × iq_I) : Option (iq_I) := iq_lp (fun v => zM_copies_76_91_81_l2_b  v.1 v.2) n v
def zM_copies_76_91_81  (I : iq_I) : Option (iq_I) :=
  (zM_copies_76_91_81_l2  ir_F ((0 : Int32), I)).bind fun w2 =>
  some w2
def zM_copies_76_92_82_l2_b   (x3 : Int32) (I : iq_I) : Option ((Int32 × iq_I) ⊕ (iq_I)) :=
  if (4 : Int32) ≤ x3 then (
    some (.inr I)) else (
    if iq_in x3 4 then (
      if iq_in x3 4 then (
        ir_let (iq_upI I 82 (Int32.toNatClampNeg x3) (I 92 (Int32.toNatClampNeg x3))) fun I1 =>
        some (.inl ((x3 + (1 : Int32)), I1))) else none) else none)
def zM_copies_76_92_82_l2   (n : Nat) (v : Int32 × iq_I) : Option (iq_I) := iq_lp (fun v => zM_copies_76_92_82_l2_b  v.1 v.2) n v
def zM_copies_76_92_82  (I : iq_I) : Option (iq_I) :=
  (zM_copies_76_92_82_l2  ir_F ((0 : Int32), I)).bind fun w2 =>
  some w2
def zM_copies_76_93_83_l2_b   (x3 : Int32) (I : iq_I) : Option ((Int32 × iq_I) ⊕ (iq_I)) :=
  if (5 : Int32) ≤ x3 then (
    some (.inr I)) else (
    if iq_in x3 5 then (
      if iq_in x3 5 then (
        ir_let (iq_upI I 83 (Int32.toNatClampNeg x3) (I 93 (Int32.toNatClampNeg x3))) fun I1 =>
        some (.inl ((x3 + (1 : Int32)), I1))) else none) else none)
def zM_copies_76_93_83_l2   (n : Nat) (v : Int32 × iq_I) : Option (iq_I) := iq_lp (fun v => zM_copies_76_93_83_l2_b  v.1 v.2) n v
def zM_copies_76_93_83  (I : iq_I) : Option (iq_I) :=
  (zM_copies_76_93_83_l2  ir_F ((0 : Int32), I)).bind fun w2 =>
  some w2
def zM_copies_76_95_84_l2_b   (x3 : Int32) (I : iq_I) : Option ((Int32 × iq_I) ⊕ (iq_I)) :=
  if (4000 : Int32) ≤ x3 then (
    some (.inr I)) else (
    if iq_in x3 4000 then (
      if iq_in x3 4000 then (
        ir_let (iq_upI I 84 (Int32.toNatClampNeg x3) (I 95 (Int32.toNatClampNeg x3))) fun I1 =>
        some (.inl ((x3 + (1 : Int32)), I1))) else none) else none)
def zM_copies_76_95_84_l2   (n : Nat) (v : Int32 × iq_I) : Option (iq_I) := iq_lp (fun v => zM_copies_76_95_84_l2_b  v.1 v.2) n v
def zM_copies_76_95_84  (I : iq_I) : Option (iq_I) :=
  (zM_copies_76_95_84_l2  ir_F ((0 : Int32), I)).bind fun w2 =>
  some w2
