/-! ===== the methods as pure functions (printed by wip/whole/emitall.py, split.py) ===== -/
def zS_J7_fill_53178_44_l5_b (x1 : Int32) (x3 : Int32)  (x2 : Int32) (I : iq_I) : Option ((Int32 × iq_I) ⊕ (iq_I)) :=
  if x3 ≤ x2 then (
    some (.inr I)) else (
    if iq_in x2 5 then (
      ir_let (iq_upI I 44 (Int32.toNatClampNeg x2) x1) fun I1 =>
      some (.inl ((x2 + (1 : Int32)), I1))) else none)
def zS_J7_fill_53178_44_l5 (x1 : Int32) (x3 : Int32)  (n : Nat) (v : Int32 × iq_I) : Option (iq_I) := iq_lp (fun v => zS_J7_fill_53178_44_l5_b x1 x3 v.1 v.2) n v
def zS_J7_fill_53178_44 (x1 : Int32) (I : iq_I) : Option (iq_I) :=
  (zS_J7_fill_53178_44_l5 x1 (5 : Int32) ir_F ((0 : Int32), I)).bind fun w2 =>
  some w2
def zS_J7_fill_53178_45_l5_b (x1 : Int32) (x3 : Int32)  (x2 : Int32) (I : iq_I) : Option ((Int32 × iq_I) ⊕ (iq_I)) :=
  if x3 ≤ x2 then (
    some (.inr I)) else (
    if iq_in x2 5 then (
      ir_let (iq_upI I 45 (Int32.toNatClampNeg x2) x1) fun I1 =>
      some (.inl ((x2 + (1 : Int32)), I1))) else none)
def zS_J7_fill_53178_45_l5 (x1 : Int32) (x3 : Int32)  (n : Nat) (v : Int32 × iq_I) : Option (iq_I) := iq_lp (fun v => zS_J7_fill_53178_45_l5_b x1 x3 v.1 v.2) n v
def zS_J7_fill_53178_45 (x1 : Int32) (I : iq_I) : Option (iq_I) :=
  (zS_J7_fill_53178_45_l5 x1 (5 : Int32) ir_F ((0 : Int32), I)).bind fun w2 =>
  some w2
def zE_clear  (I : iq_I) : Option (iq_I) :=
  ir_let (iq_upI I 42 0 (0 : Int32)) fun I1 =>
  ir_let (iq_upI I1 42 1 (0 : Int32)) fun I2 =>
  ir_let (iq_upI I2 42 2 (0 : Int32)) fun I3 =>
  (zS_J7_fill_53178_44 (0 : Int32) I3).bind fun q4 =>
  (zS_J7_fill_53178_45 (0 : Int32) q4).bind fun q5 =>
  some q5
def zU_clear  (I : iq_I) : Option (iq_I) :=
  ir_let (iq_upI I 38 0 (0 : Int32)) fun I1 =>
  ir_let (iq_upI I1 38 1 (0 : Int32)) fun I2 =>
  ir_let (iq_upI I2 38 2 (0 : Int32)) fun I3 =>
  ir_let (iq_upI I3 38 3 (0 : Int32)) fun I4 =>
  ir_let (iq_upI I4 38 4 (0 : Int32)) fun I5 =>
  ir_let (iq_upI I5 38 5 (0 : Int32)) fun I6 =>
  (zS_J7_fill_53178_41 (0 : Int32) I6).bind fun q7 =>
  (zS_J7_fill_53178_48 (-1 : Int32) q7).bind fun q8 =>
  (zS_J7_fill_53178_49 (1 : Int32) q8).bind fun q9 =>
  (zE_clear q9).bind fun q10 =>
  some q10
def zG_clear  (I : iq_I) : Option (iq_I) :=
  ir_let (iq_upI I 50 0 (0 : Int32)) fun I1 =>
  ir_let (iq_upI I1 50 1 (0 : Int32)) fun I2 =>
  ir_let (iq_upI I2 50 2 (0 : Int32)) fun I3 =>
  ir_let (iq_upI I3 53 0 (0 : Int32)) fun I4 =>
  some I4
def zT_isBlank (x0 : Int32) (I : iq_I) : Option (Int32) :=
  if x0 = (32 : Int32) then (
    some (1 : Int32)) else (
    if ¬ x0 = (10 : Int32) then (
      some (0 : Int32)) else (
      some (1 : Int32)))
def zT_isLetter (x0 : Int32) (I : iq_I) : Option (Int32) :=
  if x0 < (97 : Int32) then (
    some (0 : Int32)) else (
    if (122 : Int32) < x0 then (
      some (0 : Int32)) else (
      some (1 : Int32)))
def zT_isDigit (x0 : Int32) (I : iq_I) : Option (Int32) :=
  if x0 < (48 : Int32) then (
    some (0 : Int32)) else (
    if (57 : Int32) < x0 then (
      some (0 : Int32)) else (
      some (1 : Int32)))
def zS_J0_isLatin1_aae02_5001  (I : iq_I) : Option (Int32) :=
  some (1 : Int32)
def zS_J0_coder_7d493_5001  (I : iq_I) : Option (Int32) :=
  some (0 : Int32)
def zS_J0_length_8abf5_5001  (I : iq_I) : Option (Int32) :=
  (zS_J0_coder_7d493_5001 I).bind fun q1 =>
  some ((9 : Int32) >>> (q1 &&& 31))
def zS_J1_canEncode_9a6ad (x0 : Int32) (I : iq_I) : Option (Int32) :=
  if x0 < 0 then (
    some (0 : Int32)) else (
    if (255 : Int32) < x0 then (
      some (0 : Int32)) else (
      some (1 : Int32)))
def zS_J1_indexOfChar_4cfef_l7_b (x3 : Int32) (x4 : Int32) (I : iq_I) (x5 : Int32)  : Option ((Int32) ⊕ ((Unit) ⊕ (Int32))) :=
  if x3 ≤ x5 then (
    some (.inr (.inl ()))) else (
    if iq_in x5 9 then (
      if ¬ (ir_chr 1 (Int32.toNatClampNeg x5)) = x4 then (
        some (.inl (x5 + (1 : Int32)))) else (
        some (.inr (.inr x5)))) else none)
def zS_J1_indexOfChar_4cfef_l7 (x3 : Int32) (x4 : Int32) (I : iq_I) (n : Nat) (v : Int32) : Option ((Unit) ⊕ (Int32)) := iq_lp (fun v => zS_J1_indexOfChar_4cfef_l7_b x3 x4 I v) n v
def zS_J1_indexOfChar_4cfef (x1 : Int32) (x2 : Int32) (x3 : Int32) (I : iq_I) : Option (Int32) :=
  (zS_J1_indexOfChar_4cfef_l7 x3 ((Int32.toInt8 x1).toInt32) I ir_F x2).bind fun w1 =>
  ir_sm w1 (fun a2 =>
    some (-1 : Int32)) (fun b3 => some b3)
def zS_J1_indexOf_4cfef (x1 : Int32) (x2 : Int32) (x3 : Int32) (I : iq_I) : Option (Int32) :=
  (zS_J1_canEncode_9a6ad x1 I).bind fun q1 =>
  if ¬ q1 = 0 then (
    if (ir_max x2 (0 : Int32)) < (ir_min x3 (9 : Int32)) then (
      (zS_J1_indexOfChar_4cfef x1 (ir_max x2 (0 : Int32)) (ir_min x3 (9 : Int32)) I).bind fun q2 =>
      some q2) else (
      some (-1 : Int32))) else (
    some (-1 : Int32))
def zS_J0_indexOf_7cf53 (x1 : Int32) (x2 : Int32) (I : iq_I) : Option (Int32) :=
  (zS_J0_isLatin1_aae02_5001 I).bind fun q1 =>
  if q1 = 0 then (
    (zS_J0_length_8abf5_5001 I).bind fun q2 =>
    none) else (
    (zS_J0_length_8abf5_5001 I).bind fun q3 =>
    (zS_J1_indexOf_4cfef x1 x2 q3 I).bind fun q4 =>
    some q4)
def zS_J0_indexOf_0f7a4 (x1 : Int32) (I : iq_I) : Option (Int32) :=
  (zS_J0_indexOf_7cf53 x1 (0 : Int32) I).bind fun q1 =>
  some q1
def zT_next_l8_b    (I : iq_I) : Option ((iq_I) ⊕ (iq_I)) :=
  if (I 62 3) ≤ (I 62 1) then (
    some (.inr I)) else (
    if iq_in (I 62 1) 700 then (
      (zT_isBlank (I 2 (Int32.toNatClampNeg (I 62 1))) I).bind fun q2 =>
      if q2 = 0 then (
        some (.inr I)) else (
        ir_let (iq_upI I 62 1 ((I 62 1) + (1 : Int32))) fun I3 =>
        some (.inl I3))) else none)
def zT_next_l8   (n : Nat) (v : iq_I) : Option (iq_I) := iq_lp (fun v => zT_next_l8_b  v) n v
def zT_next_l153_b    (I : iq_I) : Option ((iq_I) ⊕ (iq_I)) :=
  if (I 62 3) ≤ (I 62 4) then (
    some (.inr I)) else (
    if iq_in (I 62 4) 700 then (
      (zT_isDigit (I 2 (Int32.toNatClampNeg (I 62 4))) I).bind fun q14 =>
      if q14 = 0 then (
        some (.inr I)) else (
        ir_let (iq_upI I 62 4 ((I 62 4) + (1 : Int32))) fun I15 =>
        some (.inl I15))) else none)
def zT_next_l153   (n : Nat) (v : iq_I) : Option (iq_I) := iq_lp (fun v => zT_next_l153_b  v) n v
def zT_next_l94_b    (I : iq_I) : Option ((iq_I) ⊕ (iq_I)) :=
  if (I 62 3) ≤ (I 62 4) then (
    some (.inr I)) else (
    if iq_in (I 62 4) 700 then (
      (zT_isLetter (I 2 (Int32.toNatClampNeg (I 62 4))) I).bind fun q18 =>
      if q18 = 0 then (
        some (.inr I)) else (
        ir_let (iq_upI I 62 4 ((I 62 4) + (1 : Int32))) fun I19 =>
        some (.inl I19))) else none)
def zT_next_l94   (n : Nat) (v : iq_I) : Option (iq_I) := iq_lp (fun v => zT_next_l94_b  v) n v
def zT_next_47  (I : iq_I) : Option (iq_I) :=
  ir_let (iq_upI I 62 4 (I 62 1)) fun I5 =>
  if (I5 62 1) < (I5 62 3) then (
    if iq_in (I5 62 1) 700 then (
      (zT_isLetter (I5 2 (Int32.toNatClampNeg (I5 62 1))) I5).bind fun q6 =>
      if q6 = 0 then (
        if iq_in (I5 62 1) 700 then (
          (zT_isDigit (I5 2 (Int32.toNatClampNeg (I5 62 1))) I5).bind fun q7 =>
          if q7 = 0 then (
            if iq_in (I5 62 1) 700 then (
              (zS_J0_indexOf_0f7a4 ((Int32.toUInt32 (I5 2 (Int32.toNatClampNeg (I5 62 1))) % 65536).toInt32) I5).bind fun q8 =>
              if q8 < 0 then (
                ir_let (iq_upI I5 62 0 (4 : Int32)) fun I9 =>
                ir_let (iq_upI I9 62 4 ((I9 62 1) + (1 : Int32))) fun I10 =>
                some I10) else (
                ir_let (iq_upI I5 62 0 (3 : Int32)) fun I11 =>
                ir_let (iq_upI I11 62 4 ((I11 62 1) + (1 : Int32))) fun I12 =>
                some I12)) else none) else (
            ir_let (iq_upI I5 62 0 (2 : Int32)) fun I13 =>
            (zT_next_l153  ir_F I13).bind fun w16 =>
            some w16)) else none) else (
        ir_let (iq_upI I5 62 0 (1 : Int32)) fun I17 =>
        (zT_next_l94  ir_F I17).bind fun w20 =>
        some w20)) else none) else (
    ir_let (iq_upI I5 62 0 (0 : Int32)) fun I21 =>
    some I21)
def zT_next  (I : iq_I) : Option (iq_I) :=
  ir_let (iq_upI I 62 1 (I 62 4)) fun I1 =>
  (zT_next_l8  ir_F I1).bind fun w4 =>
  zT_next_47 w4
def zT_begin (x1 : Int32) (I : iq_I) : Option (iq_I) :=
  ir_let (iq_upI I 62 3 (ir_min x1 (700 : Int32))) fun I1 =>
  ir_let (iq_upI I1 62 4 (0 : Int32)) fun I2 =>
  (zT_next I2).bind fun q3 =>
  some q3
def zS_J0_coder_7d493_5002  (I : iq_I) : Option (Int32) :=
  some (0 : Int32)
def zS_J0_length_8abf5_5002  (I : iq_I) : Option (Int32) :=
  (zS_J0_coder_7d493_5002 I).bind fun q1 =>
  some ((5 : Int32) >>> (q1 &&& 31))
def zS_J0_isLatin1_aae02_5002  (I : iq_I) : Option (Int32) :=
  some (1 : Int32)
def zS_J3_checkIndex_8e157_9 (x0 : Int32) (x1 : Int32) (I : iq_I) : Option (Int32) :=
  none
def zS_J3_checkIndex_8e157 (x0 : Int32) (x1 : Int32) (I : iq_I) : Option (Int32) :=
  if x0 < 0 then (
    zS_J3_checkIndex_8e157_9 x0 x1 I) else (
    if x0 < x1 then (
      some x0) else (
      zS_J3_checkIndex_8e157_9 x0 x1 I))
def zS_J0_checkIndex_df160 (x0 : Int32) (x1 : Int32) (I : iq_I) : Option (Unit) :=
  (zS_J3_checkIndex_8e157 x0 x1 I).bind fun q1 =>
  some ()
def zS_J1_charAt_3b067_6002 (x1 : Int32) (I : iq_I) : Option (Int32) :=
  (zS_J0_checkIndex_df160 x1 (5 : Int32) I).bind fun q1 =>
  if iq_in x1 5 then (
    if narrow .char (.int ((Int32.toUInt32 ((ir_chr 2 (Int32.toNatClampNeg x1)) &&& (255 : Int32)) % 65536).toInt32)) = .int ((Int32.toUInt32 ((ir_chr 2 (Int32.toNatClampNeg x1)) &&& (255 : Int32)) % 65536).toInt32) then some ((Int32.toUInt32 ((ir_chr 2 (Int32.toNatClampNeg x1)) &&& (255 : Int32)) % 65536).toInt32) else none) else none
def zS_J0_charAt_5068e_5002 (x1 : Int32) (I : iq_I) : Option (Int32) :=
  (zS_J0_isLatin1_aae02_5002 I).bind fun q1 =>
  if q1 = 0 then (
    none) else (
    (zS_J1_charAt_3b067_6002 x1 I).bind fun q2 =>
    if narrow .char (.int q2) = .int q2 then some q2 else none)
def zT_isWord_62_5002_l28_b  (I : iq_I) (x2 : Int32)  : Option ((Int32) ⊕ ((Unit) ⊕ (Int32))) :=
  (zS_J0_length_8abf5_5002 I).bind fun q2 =>
  if q2 ≤ x2 then (
    some (.inr (.inl ()))) else (
    if iq_in ((I 62 1) + x2) 700 then (
      (zS_J0_charAt_5068e_5002 x2 I).bind fun q3 =>
      if (I 2 (Int32.toNatClampNeg ((I 62 1) + x2))) = q3 then (
        some (.inl (x2 + (1 : Int32)))) else (
        some (.inr (.inr (0 : Int32))))) else none)
def zT_isWord_62_5002_l28  (I : iq_I) (n : Nat) (v : Int32) : Option ((Unit) ⊕ (Int32)) := iq_lp (fun v => zT_isWord_62_5002_l28_b I v) n v
def zT_isWord_62_5002  (I : iq_I) : Option (Int32) :=
  if ¬ (I 62 0) = (1 : Int32) then (
    some (0 : Int32)) else (
    (zS_J0_length_8abf5_5002 I).bind fun q1 =>
    if ((I 62 4) - (I 62 1)) = q1 then (
      (zT_isWord_62_5002_l28 I ir_F (0 : Int32)).bind fun w4 =>
      ir_sm w4 (fun a5 =>
        some (1 : Int32)) (fun b6 => some b6)) else (
      some (0 : Int32)))
def zR_refuse (x1 : Int32) (I : iq_I) : Option (Int32 × iq_I) :=
  ir_let (iq_upI I 61 1 x1) fun I1 =>
  ir_let (iq_upI I1 61 0 (I1 62 1)) fun I2 =>
  some ((0 : Int32), I2)
def zS_J0_coder_7d493_5003  (I : iq_I) : Option (Int32) :=
  some (0 : Int32)
def zS_J0_length_8abf5_5003  (I : iq_I) : Option (Int32) :=
  (zS_J0_coder_7d493_5003 I).bind fun q1 =>
  some ((3 : Int32) >>> (q1 &&& 31))
def zS_J0_isLatin1_aae02_5003  (I : iq_I) : Option (Int32) :=
  some (1 : Int32)
def zS_J1_charAt_3b067_6003 (x1 : Int32) (I : iq_I) : Option (Int32) :=
  (zS_J0_checkIndex_df160 x1 (3 : Int32) I).bind fun q1 =>
  if iq_in x1 3 then (
    if narrow .char (.int ((Int32.toUInt32 ((ir_chr 3 (Int32.toNatClampNeg x1)) &&& (255 : Int32)) % 65536).toInt32)) = .int ((Int32.toUInt32 ((ir_chr 3 (Int32.toNatClampNeg x1)) &&& (255 : Int32)) % 65536).toInt32) then some ((Int32.toUInt32 ((ir_chr 3 (Int32.toNatClampNeg x1)) &&& (255 : Int32)) % 65536).toInt32) else none) else none
def zS_J0_charAt_5068e_5003 (x1 : Int32) (I : iq_I) : Option (Int32) :=
  (zS_J0_isLatin1_aae02_5003 I).bind fun q1 =>
  if q1 = 0 then (
    none) else (
    (zS_J1_charAt_3b067_6003 x1 I).bind fun q2 =>
    if narrow .char (.int q2) = .int q2 then some q2 else none)
def zT_isWord_62_5003_l28_b  (I : iq_I) (x2 : Int32)  : Option ((Int32) ⊕ ((Unit) ⊕ (Int32))) :=
  (zS_J0_length_8abf5_5003 I).bind fun q2 =>
  if q2 ≤ x2 then (
    some (.inr (.inl ()))) else (
    if iq_in ((I 62 1) + x2) 700 then (
      (zS_J0_charAt_5068e_5003 x2 I).bind fun q3 =>
      if (I 2 (Int32.toNatClampNeg ((I 62 1) + x2))) = q3 then (
        some (.inl (x2 + (1 : Int32)))) else (
        some (.inr (.inr (0 : Int32))))) else none)
def zT_isWord_62_5003_l28  (I : iq_I) (n : Nat) (v : Int32) : Option ((Unit) ⊕ (Int32)) := iq_lp (fun v => zT_isWord_62_5003_l28_b I v) n v
def zT_isWord_62_5003  (I : iq_I) : Option (Int32) :=
  if ¬ (I 62 0) = (1 : Int32) then (
    some (0 : Int32)) else (
    (zS_J0_length_8abf5_5003 I).bind fun q1 =>
    if ((I 62 4) - (I 62 1)) = q1 then (
      (zT_isWord_62_5003_l28 I ir_F (0 : Int32)).bind fun w4 =>
      ir_sm w4 (fun a5 =>
        some (1 : Int32)) (fun b6 => some b6)) else (
      some (0 : Int32)))
def zU_putState (x1 : Int32) (I : iq_I) : Option (iq_I) :=
  if (10 : Int32) ≤ (I 38 0) then (
    some I) else (
    if x1 = 0 then (
      ir_let (iq_upI I 38 0 ((I 38 0) + (1 : Int32))) fun I1 =>
      some I1) else (
      ir_let (iq_upI I 38 1 ((I 38 1) ||| ((1 : Int32) <<< ((I 38 0) &&& 31)))) fun I2 =>
      ir_let (iq_upI I2 38 0 ((I2 38 0) + (1 : Int32))) fun I3 =>
      some I3))
def zT_isSign (x1 : Int32) (I : iq_I) : Option (Int32) :=
  if ¬ (I 62 0) = (3 : Int32) then (
    some (0 : Int32)) else (
    if (I 62 3) ≤ (I 62 1) then (
      some (0 : Int32)) else (
      if iq_in (I 62 1) 700 then (
        if ¬ (I 2 (Int32.toNatClampNeg (I 62 1))) = x1 then (
          some (0 : Int32)) else (
          some (1 : Int32))) else none))
def zR_passLineEnd  (I : iq_I) : Option (Int32 × iq_I) :=
  (zT_isSign (59 : Int32) I).bind fun q1 =>
  if ¬ q1 = 0 then (
    (zT_next I).bind fun q2 =>
    some ((1 : Int32), q2)) else (
    (zR_refuse (1 : Int32) I).bind fun q3 =>
    if q3.1 = 0 ∨ q3.1 = 1 then some (q3.1, q3.2) else none)
def zR_readState_46 (x1 : Int32) (I : iq_I) : Option (Int32 × iq_I) :=
  (zU_putState x1 I).bind fun q3 =>
  (zR_passLineEnd q3).bind fun q4 =>
  if q4.1 = 0 ∨ q4.1 = 1 then some (q4.1, q4.2) else none
def zR_readState  (I : iq_I) : Option (Int32 × iq_I) :=
  if (I 38 0) < (10 : Int32) then (
    (zT_next I).bind fun q1 =>
    (zT_isWord_62_5003 q1).bind fun q2 =>
    if q2 = 0 then (
      zR_readState_46 q2 q1) else (
      (zT_next q1).bind fun q5 =>
      zR_readState_46 q2 q5)) else (
    (zR_refuse (2 : Int32) I).bind fun q6 =>
    if q6.1 = 0 ∨ q6.1 = 1 then some (q6.1, q6.2) else none)
def zS_J0_coder_7d493_5004  (I : iq_I) : Option (Int32) :=
  some (0 : Int32)
def zS_J0_length_8abf5_5004  (I : iq_I) : Option (Int32) :=
  (zS_J0_coder_7d493_5004 I).bind fun q1 =>
  some ((4 : Int32) >>> (q1 &&& 31))
def zS_J0_isLatin1_aae02_5004  (I : iq_I) : Option (Int32) :=
  some (1 : Int32)
def zS_J1_charAt_3b067_6004 (x1 : Int32) (I : iq_I) : Option (Int32) :=
  (zS_J0_checkIndex_df160 x1 (4 : Int32) I).bind fun q1 =>
  if iq_in x1 4 then (
    if narrow .char (.int ((Int32.toUInt32 ((ir_chr 4 (Int32.toNatClampNeg x1)) &&& (255 : Int32)) % 65536).toInt32)) = .int ((Int32.toUInt32 ((ir_chr 4 (Int32.toNatClampNeg x1)) &&& (255 : Int32)) % 65536).toInt32) then some ((Int32.toUInt32 ((ir_chr 4 (Int32.toNatClampNeg x1)) &&& (255 : Int32)) % 65536).toInt32) else none) else none
def zS_J0_charAt_5068e_5004 (x1 : Int32) (I : iq_I) : Option (Int32) :=
  (zS_J0_isLatin1_aae02_5004 I).bind fun q1 =>
  if q1 = 0 then (
    none) else (
    (zS_J1_charAt_3b067_6004 x1 I).bind fun q2 =>
    if narrow .char (.int q2) = .int q2 then some q2 else none)
def zT_isWord_62_5004_l28_b  (I : iq_I) (x2 : Int32)  : Option ((Int32) ⊕ ((Unit) ⊕ (Int32))) :=
  (zS_J0_length_8abf5_5004 I).bind fun q2 =>
  if q2 ≤ x2 then (
    some (.inr (.inl ()))) else (
    if iq_in ((I 62 1) + x2) 700 then (
      (zS_J0_charAt_5068e_5004 x2 I).bind fun q3 =>
      if (I 2 (Int32.toNatClampNeg ((I 62 1) + x2))) = q3 then (
        some (.inl (x2 + (1 : Int32)))) else (
        some (.inr (.inr (0 : Int32))))) else none)
def zT_isWord_62_5004_l28  (I : iq_I) (n : Nat) (v : Int32) : Option ((Unit) ⊕ (Int32)) := iq_lp (fun v => zT_isWord_62_5004_l28_b I v) n v
def zT_isWord_62_5004  (I : iq_I) : Option (Int32) :=
  if ¬ (I 62 0) = (1 : Int32) then (
    some (0 : Int32)) else (
    (zS_J0_length_8abf5_5004 I).bind fun q1 =>
    if ((I 62 4) - (I 62 1)) = q1 then (
      (zT_isWord_62_5004_l28 I ir_F (0 : Int32)).bind fun w4 =>
      ir_sm w4 (fun a5 =>
        some (1 : Int32)) (fun b6 => some b6)) else (
      some (0 : Int32)))
def zT_size  (I : iq_I) : Option (Int32) :=
  some ((I 62 4) - (I 62 1))
def zU_lengthOf_38 (x1 : Int32) (I : iq_I) : Option (Int32) :=
  if x1 < 0 then (
    some (0 : Int32)) else (
    if x1 < (I 38 2) then (
      if iq_in x1 14 then (
        some (I 39 (Int32.toNatClampNeg x1))) else none) else (
      some (0 : Int32)))
def zU_letterAt_38 (x1 : Int32) (x2 : Int32) (I : iq_I) : Option (Int32) :=
  if x1 < 0 then (
    some (0 : Int32)) else (
    if (14 : Int32) ≤ x1 then (
      some (0 : Int32)) else (
      if x2 < 0 then (
        some (0 : Int32)) else (
        if x2 < (9 : Int32) then (
          if iq_in ((x1 * (9 : Int32)) + x2) 126 then (
            some (I 47 (Int32.toNatClampNeg ((x1 * (9 : Int32)) + x2)))) else none) else (
          some (0 : Int32)))))
def zT_letterNumber (x1 : Int32) (I : iq_I) : Option (Int32) :=
  if x1 < 0 then (
    some (0 : Int32)) else (
    if x1 < ((I 62 4) - (I 62 1)) then (
      if iq_in ((I 62 1) + x1) 700 then (
        some (((I 2 (Int32.toNatClampNeg ((I 62 1) + x1))) - (97 : Int32)) + (1 : Int32))) else none) else (
      some (0 : Int32)))
def zR_isRowOf_l24_b (x1 : Int32) (x2 : Int32) (I : iq_I) (x3 : Int32)  : Option ((Int32) ⊕ ((Unit) ⊕ (Int32))) :=
  if x2 ≤ x3 then (
    some (.inr (.inl ()))) else (
    (zU_letterAt_38 x1 x3 I).bind fun q3 =>
    (zT_letterNumber x3 I).bind fun q4 =>
    if q3 = q4 then (
      some (.inl (x3 + (1 : Int32)))) else (
      some (.inr (.inr (0 : Int32)))))
def zR_isRowOf_l24 (x1 : Int32) (x2 : Int32) (I : iq_I) (n : Nat) (v : Int32) : Option ((Unit) ⊕ (Int32)) := iq_lp (fun v => zR_isRowOf_l24_b x1 x2 I v) n v
def zR_isRowOf (x1 : Int32) (I : iq_I) : Option (Int32) :=
  (zU_lengthOf_38 x1 I).bind fun q1 =>
  (zT_size I).bind fun q2 =>
  if q1 = q2 then (
    (zR_isRowOf_l24 x1 q1 I ir_F (0 : Int32)).bind fun w5 =>
    ir_sm w5 (fun a6 =>
      some (1 : Int32)) (fun b7 => some b7)) else (
    some (0 : Int32))
def zR_isToldRow_l2_b  (I : iq_I) (x1 : Int32)  : Option ((Int32) ⊕ ((Unit) ⊕ (Int32))) :=
  if (I 38 2) ≤ x1 then (
    some (.inr (.inl ()))) else (
    (zR_isRowOf x1 I).bind fun q1 =>
    if q1 = 0 then (
      some (.inl (x1 + (1 : Int32)))) else (
      some (.inr (.inr (1 : Int32)))))
def zR_isToldRow_l2  (I : iq_I) (n : Nat) (v : Int32) : Option ((Unit) ⊕ (Int32)) := iq_lp (fun v => zR_isToldRow_l2_b I v) n v
def zR_isToldRow  (I : iq_I) : Option (Int32) :=
  (zR_isToldRow_l2 I ir_F (0 : Int32)).bind fun w2 =>
  ir_sm w2 (fun a3 =>
    some (0 : Int32)) (fun b4 => some b4)
def zU_putLetter (x1 : Int32) (x2 : Int32) (x3 : Int32) (I : iq_I) : Option (iq_I) :=
  if x1 < 0 then (
    some I) else (
    if (14 : Int32) ≤ x1 then (
      some I) else (
      if x2 < 0 then (
        some I) else (
        if (9 : Int32) ≤ x2 then (
          some I) else (
          if iq_in ((x1 * (9 : Int32)) + x2) 126 then (
            ir_let (iq_upI I 47 (Int32.toNatClampNeg ((x1 * (9 : Int32)) + x2)) x3) fun I1 =>
            some I1) else none))))
