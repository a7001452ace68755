/-! ===== the methods as pure functions (printed by wip/whole/emitall.py, split.py) ===== -/
def zT_number_l7_b  (I : iq_I) (x1 : Int32) (x2 : Int32)  : Option ((Int32 × Int32) ⊕ (Int32)) :=
  if (I 62 4) ≤ x2 then (
    some (.inr x1)) else (
    if (I 62 3) ≤ x2 then (
      some (.inr x1)) else (
      if iq_in x2 700 then (
        some (.inl ((((x1 * (10 : Int32)) + (I 2 (Int32.toNatClampNeg x2))) - (48 : Int32)), (x2 + (1 : Int32))))) else none))
def zT_number_l7  (I : iq_I) (n : Nat) (v : Int32 × Int32) : Option (Int32) := iq_lp (fun v => zT_number_l7_b I v.1 v.2) n v
def zT_number  (I : iq_I) : Option (Int32) :=
  (zT_number_l7 I ir_F ((0 : Int32), (I 62 1))).bind fun w1 =>
  some w1
def zR_isNumberTo_39  (I : iq_I) : Option (Int32 × iq_I) :=
  (zR_refuse (2 : Int32) I).bind fun q2 =>
  if q2.1 = 0 ∨ q2.1 = 1 then some (q2.1, q2.2) else none
def zR_isNumberTo (x1 : Int32) (I : iq_I) : Option (Int32 × iq_I) :=
  if (I 62 0) = (2 : Int32) then (
    (zT_size I).bind fun q1 =>
    if (4 : Int32) < q1 then (
      zR_isNumberTo_39 I) else (
      (zT_number I).bind fun q3 =>
      if q3 ≤ x1 then (
        some ((1 : Int32), I)) else (
        zR_isNumberTo_39 I))) else (
    (zR_refuse (1 : Int32) I).bind fun q4 =>
    if q4.1 = 0 ∨ q4.1 = 1 then some (q4.1, q4.2) else none)
def zU_putWord (x1 : Int32) (x2 : Int32) (I : iq_I) : Option (iq_I) :=
  if (14 : Int32) ≤ (I 38 2) then (
    some I) else (
    if x2 < 0 then (
      some I) else (
      if (8 : Int32) ≤ x2 then (
        some I) else (
        if iq_in (I 38 2) 14 then (
          ir_let (iq_upI I 39 (Int32.toNatClampNeg (I 38 2)) x1) fun I1 =>
          if iq_in (I1 38 2) 14 then (
            ir_let (iq_upI I1 40 (Int32.toNatClampNeg (I1 38 2)) x2) fun I2 =>
            if iq_in x2 8 then (
              if iq_in x2 8 then (
                ir_let (iq_upI I2 41 (Int32.toNatClampNeg x2) ((I2 41 (Int32.toNatClampNeg x2)) + (1 : Int32))) fun I3 =>
                ir_let (iq_upI I3 38 4 ((I3 38 4) ||| ((1 : Int32) <<< (x2 &&& 31)))) fun I4 =>
                ir_let (iq_upI I4 38 2 ((I4 38 2) + (1 : Int32))) fun I5 =>
                some I5) else none) else none) else none) else none)))
def zR_readWord_l77_b (x1 : Int32)  (x2 : Int32) (I : iq_I) : Option ((Int32 × iq_I) ⊕ (iq_I)) :=
  if x1 ≤ x2 then (
    some (.inr I)) else (
    (zT_letterNumber x2 I).bind fun q4 =>
    (zU_putLetter (I 38 2) x2 q4 I).bind fun q5 =>
    some (.inl ((x2 + (1 : Int32)), q5)))
def zR_readWord_l77 (x1 : Int32)  (n : Nat) (v : Int32 × iq_I) : Option (iq_I) := iq_lp (fun v => zR_readWord_l77_b x1 v.1 v.2) n v
def zR_readWord  (I : iq_I) : Option (Int32 × iq_I) :=
  if (I 38 2) < (14 : Int32) then (
    (zT_next I).bind fun q1 =>
    if (q1 62 0) = (1 : Int32) then (
      (zT_size q1).bind fun q2 =>
      if q2 ≤ (9 : Int32) then (
        (zR_isToldRow q1).bind fun q3 =>
        if q3 = 0 then (
          (zR_readWord_l77 q2 ir_F ((0 : Int32), q1)).bind fun w6 =>
          (zT_next w6).bind fun q7 =>
          (zR_isNumberTo (7 : Int32) q7).bind fun q8 =>
          if ¬ q8.1 = 0 then (
            (zT_number q8.2).bind fun q9 =>
            (zU_putWord q2 q9 q8.2).bind fun q10 =>
            (zT_next q10).bind fun q11 =>
            (zR_passLineEnd q11).bind fun q12 =>
            if q12.1 = 0 ∨ q12.1 = 1 then some (q12.1, q12.2) else none) else (
            some ((0 : Int32), q8.2))) else (
          (zR_refuse (4 : Int32) q1).bind fun q13 =>
          if q13.1 = 0 ∨ q13.1 = 1 then some (q13.1, q13.2) else none)) else (
        (zR_refuse (2 : Int32) q1).bind fun q14 =>
        if q14.1 = 0 ∨ q14.1 = 1 then some (q14.1, q14.2) else none)) else (
      (zR_refuse (1 : Int32) q1).bind fun q15 =>
      if q15.1 = 0 ∨ q15.1 = 1 then some (q15.1, q15.2) else none)) else (
    (zR_refuse (2 : Int32) I).bind fun q16 =>
    if q16.1 = 0 ∨ q16.1 = 1 then some (q16.1, q16.2) else none)
def zS_J0_coder_7d493_5005  (I : iq_I) : Option (Int32) :=
  some (0 : Int32)
def zS_J0_length_8abf5_5005  (I : iq_I) : Option (Int32) :=
  (zS_J0_coder_7d493_5005 I).bind fun q1 =>
  some ((3 : Int32) >>> (q1 &&& 31))
def zS_J0_isLatin1_aae02_5005  (I : iq_I) : Option (Int32) :=
  some (1 : Int32)
def zS_J1_charAt_3b067_6005 (x1 : Int32) (I : iq_I) : Option (Int32) :=
  (zS_J0_checkIndex_df160 x1 (3 : Int32) I).bind fun q1 =>
  if iq_in x1 3 then (
    if narrow .char (.int ((Int32.toUInt32 ((ir_chr 5 (Int32.toNatClampNeg x1)) &&& (255 : Int32)) % 65536).toInt32)) = .int ((Int32.toUInt32 ((ir_chr 5 (Int32.toNatClampNeg x1)) &&& (255 : Int32)) % 65536).toInt32) then some ((Int32.toUInt32 ((ir_chr 5 (Int32.toNatClampNeg x1)) &&& (255 : Int32)) % 65536).toInt32) else none) else none
def zS_J0_charAt_5068e_5005 (x1 : Int32) (I : iq_I) : Option (Int32) :=
  (zS_J0_isLatin1_aae02_5005 I).bind fun q1 =>
  if q1 = 0 then (
    none) else (
    (zS_J1_charAt_3b067_6005 x1 I).bind fun q2 =>
    if narrow .char (.int q2) = .int q2 then some q2 else none)
def zT_isWord_62_5005_l28_b  (I : iq_I) (x2 : Int32)  : Option ((Int32) ⊕ ((Unit) ⊕ (Int32))) :=
  (zS_J0_length_8abf5_5005 I).bind fun q2 =>
  if q2 ≤ x2 then (
    some (.inr (.inl ()))) else (
    if iq_in ((I 62 1) + x2) 700 then (
      (zS_J0_charAt_5068e_5005 x2 I).bind fun q3 =>
      if (I 2 (Int32.toNatClampNeg ((I 62 1) + x2))) = q3 then (
        some (.inl (x2 + (1 : Int32)))) else (
        some (.inr (.inr (0 : Int32))))) else none)
def zT_isWord_62_5005_l28  (I : iq_I) (n : Nat) (v : Int32) : Option ((Unit) ⊕ (Int32)) := iq_lp (fun v => zT_isWord_62_5005_l28_b I v) n v
def zT_isWord_62_5005  (I : iq_I) : Option (Int32) :=
  if ¬ (I 62 0) = (1 : Int32) then (
    some (0 : Int32)) else (
    (zS_J0_length_8abf5_5005 I).bind fun q1 =>
    if ((I 62 4) - (I 62 1)) = q1 then (
      (zT_isWord_62_5005_l28 I ir_F (0 : Int32)).bind fun w4 =>
      ir_sm w4 (fun a5 =>
        some (1 : Int32)) (fun b6 => some b6)) else (
      some (0 : Int32)))
def zR_isToldNumber (x1 : Int32) (I : iq_I) : Option (Int32 × iq_I) :=
  (zR_isNumberTo (9999 : Int32) I).bind fun q1 =>
  if ¬ q1.1 = 0 then (
    (zT_number q1.2).bind fun q2 =>
    if q2 < x1 then (
      some ((1 : Int32), q1.2)) else (
      (zR_refuse (3 : Int32) q1.2).bind fun q3 =>
      if q3.1 = 0 then (
        some ((0 : Int32), q3.2)) else (
        some ((1 : Int32), q3.2)))) else (
    some ((0 : Int32), q1.2))
def zU_leadsBy_38 (x1 : Int32) (x2 : Int32) (I : iq_I) : Option (Int32) :=
  if x1 < 0 then (
    some (-1 : Int32)) else (
    if (I 38 0) ≤ x1 then (
      some (-1 : Int32)) else (
      if x2 < 0 then (
        some (-1 : Int32)) else (
        if x2 < (8 : Int32) then (
          if iq_in ((x1 * (8 : Int32)) + x2) 80 then (
            some (I 48 (Int32.toNatClampNeg ((x1 * (8 : Int32)) + x2)))) else none) else (
          some (-1 : Int32)))))
def zU_putArc (x1 : Int32) (x2 : Int32) (x3 : Int32) (I : iq_I) : Option (iq_I) :=
  if x1 < 0 then (
    some I) else (
    if (10 : Int32) ≤ x1 then (
      some I) else (
      if x2 < 0 then (
        some I) else (
        if (8 : Int32) ≤ x2 then (
          some I) else (
          if iq_in ((x1 * (8 : Int32)) + x2) 80 then (
            ir_let (iq_upI I 48 (Int32.toNatClampNeg ((x1 * (8 : Int32)) + x2)) x3) fun I1 =>
            ir_let (iq_upI I1 38 3 ((I1 38 3) + (1 : Int32))) fun I2 =>
            some I2) else none))))
def zR_readArc  (I : iq_I) : Option (Int32 × iq_I) :=
  if (I 38 3) < (24 : Int32) then (
    (zT_next I).bind fun q1 =>
    (zR_isToldNumber (q1 38 0) q1).bind fun q2 =>
    if ¬ q2.1 = 0 then (
      (zT_number q2.2).bind fun q3 =>
      (zT_next q2.2).bind fun q4 =>
      (zR_isNumberTo (7 : Int32) q4).bind fun q5 =>
      if ¬ q5.1 = 0 then (
        (zT_number q5.2).bind fun q6 =>
        (zU_leadsBy_38 q3 q6 q5.2).bind fun q7 =>
        if q7 = (-1 : Int32) then (
          (zT_next q5.2).bind fun q8 =>
          (zR_isToldNumber (q8 38 0) q8).bind fun q9 =>
          if ¬ q9.1 = 0 then (
            (zT_number q9.2).bind fun q10 =>
            (zU_putArc q3 q6 q10 q9.2).bind fun q11 =>
            (zT_next q11).bind fun q12 =>
            (zR_passLineEnd q12).bind fun q13 =>
            if q13.1 = 0 ∨ q13.1 = 1 then some (q13.1, q13.2) else none) else (
            some ((0 : Int32), q9.2))) else (
          (zR_refuse (4 : Int32) q5.2).bind fun q14 =>
          if q14.1 = 0 ∨ q14.1 = 1 then some (q14.1, q14.2) else none)) else (
        some ((0 : Int32), q5.2))) else (
      some ((0 : Int32), q2.2))) else (
    (zR_refuse (2 : Int32) I).bind fun q15 =>
    if q15.1 = 0 ∨ q15.1 = 1 then some (q15.1, q15.2) else none)
def zS_J0_coder_7d493_5006  (I : iq_I) : Option (Int32) :=
  some (0 : Int32)
def zS_J0_length_8abf5_5006  (I : iq_I) : Option (Int32) :=
  (zS_J0_coder_7d493_5006 I).bind fun q1 =>
  some ((4 : Int32) >>> (q1 &&& 31))
def zS_J0_isLatin1_aae02_5006  (I : iq_I) : Option (Int32) :=
  some (1 : Int32)
def zS_J1_charAt_3b067_6006 (x1 : Int32) (I : iq_I) : Option (Int32) :=
  (zS_J0_checkIndex_df160 x1 (4 : Int32) I).bind fun q1 =>
  if iq_in x1 4 then (
    if narrow .char (.int ((Int32.toUInt32 ((ir_chr 6 (Int32.toNatClampNeg x1)) &&& (255 : Int32)) % 65536).toInt32)) = .int ((Int32.toUInt32 ((ir_chr 6 (Int32.toNatClampNeg x1)) &&& (255 : Int32)) % 65536).toInt32) then some ((Int32.toUInt32 ((ir_chr 6 (Int32.toNatClampNeg x1)) &&& (255 : Int32)) % 65536).toInt32) else none) else none
def zS_J0_charAt_5068e_5006 (x1 : Int32) (I : iq_I) : Option (Int32) :=
  (zS_J0_isLatin1_aae02_5006 I).bind fun q1 =>
  if q1 = 0 then (
    none) else (
    (zS_J1_charAt_3b067_6006 x1 I).bind fun q2 =>
    if narrow .char (.int q2) = .int q2 then some q2 else none)
def zT_isWord_62_5006_l28_b  (I : iq_I) (x2 : Int32)  : Option ((Int32) ⊕ ((Unit) ⊕ (Int32))) :=
  (zS_J0_length_8abf5_5006 I).bind fun q2 =>
  if q2 ≤ x2 then (
    some (.inr (.inl ()))) else (
    if iq_in ((I 62 1) + x2) 700 then (
      (zS_J0_charAt_5068e_5006 x2 I).bind fun q3 =>
      if (I 2 (Int32.toNatClampNeg ((I 62 1) + x2))) = q3 then (
        some (.inl (x2 + (1 : Int32)))) else (
        some (.inr (.inr (0 : Int32))))) else none)
def zT_isWord_62_5006_l28  (I : iq_I) (n : Nat) (v : Int32) : Option ((Unit) ⊕ (Int32)) := iq_lp (fun v => zT_isWord_62_5006_l28_b I v) n v
def zT_isWord_62_5006  (I : iq_I) : Option (Int32) :=
  if ¬ (I 62 0) = (1 : Int32) then (
    some (0 : Int32)) else (
    (zS_J0_length_8abf5_5006 I).bind fun q1 =>
    if ((I 62 4) - (I 62 1)) = q1 then (
      (zT_isWord_62_5006_l28 I ir_F (0 : Int32)).bind fun w4 =>
      ir_sm w4 (fun a5 =>
        some (1 : Int32)) (fun b6 => some b6)) else (
      some (0 : Int32)))
def zU_putPrice (x1 : Int32) (x2 : Int32) (I : iq_I) : Option (iq_I) :=
  if x1 < 0 then (
    some I) else (
    if (8 : Int32) ≤ x1 then (
      some I) else (
      if iq_in x1 8 then (
        ir_let (iq_upI I 49 (Int32.toNatClampNeg x1) x2) fun I1 =>
        ir_let (iq_upI I1 38 5 ((I1 38 5) ||| ((1 : Int32) <<< (x1 &&& 31)))) fun I2 =>
        some I2) else none))
def zR_readCost  (I : iq_I) : Option (Int32 × iq_I) :=
  (zT_next I).bind fun q1 =>
  (zR_isNumberTo (7 : Int32) q1).bind fun q2 =>
  if ¬ q2.1 = 0 then (
    (zT_number q2.2).bind fun q3 =>
    if (((q2.2 38 5) >>> (q3 &&& 31)) &&& (1 : Int32)) = 0 then (
      (zT_next q2.2).bind fun q4 =>
      (zR_isNumberTo (9 : Int32) q4).bind fun q5 =>
      if ¬ q5.1 = 0 then (
        (zT_number q5.2).bind fun q6 =>
        (zU_putPrice q3 q6 q5.2).bind fun q7 =>
        (zT_next q7).bind fun q8 =>
        (zR_passLineEnd q8).bind fun q9 =>
        if q9.1 = 0 ∨ q9.1 = 1 then some (q9.1, q9.2) else none) else (
        some ((0 : Int32), q5.2))) else (
      (zR_refuse (4 : Int32) q2.2).bind fun q10 =>
      if q10.1 = 0 ∨ q10.1 = 1 then some (q10.1, q10.2) else none)) else (
    some ((0 : Int32), q2.2))
def zS_J0_coder_7d493_5007  (I : iq_I) : Option (Int32) :=
  some (0 : Int32)
def zS_J0_length_8abf5_5007  (I : iq_I) : Option (Int32) :=
  (zS_J0_coder_7d493_5007 I).bind fun q1 =>
  some ((6 : Int32) >>> (q1 &&& 31))
def zS_J0_isLatin1_aae02_5007  (I : iq_I) : Option (Int32) :=
  some (1 : Int32)
def zS_J1_charAt_3b067_6007 (x1 : Int32) (I : iq_I) : Option (Int32) :=
  (zS_J0_checkIndex_df160 x1 (6 : Int32) I).bind fun q1 =>
  if iq_in x1 6 then (
    if narrow .char (.int ((Int32.toUInt32 ((ir_chr 7 (Int32.toNatClampNeg x1)) &&& (255 : Int32)) % 65536).toInt32)) = .int ((Int32.toUInt32 ((ir_chr 7 (Int32.toNatClampNeg x1)) &&& (255 : Int32)) % 65536).toInt32) then some ((Int32.toUInt32 ((ir_chr 7 (Int32.toNatClampNeg x1)) &&& (255 : Int32)) % 65536).toInt32) else none) else none
def zS_J0_charAt_5068e_5007 (x1 : Int32) (I : iq_I) : Option (Int32) :=
  (zS_J0_isLatin1_aae02_5007 I).bind fun q1 =>
  if q1 = 0 then (
    none) else (
    (zS_J1_charAt_3b067_6007 x1 I).bind fun q2 =>
    if narrow .char (.int q2) = .int q2 then some q2 else none)
def zT_isWord_62_5007_l28_b  (I : iq_I) (x2 : Int32)  : Option ((Int32) ⊕ ((Unit) ⊕ (Int32))) :=
  (zS_J0_length_8abf5_5007 I).bind fun q2 =>
  if q2 ≤ x2 then (
    some (.inr (.inl ()))) else (
    if iq_in ((I 62 1) + x2) 700 then (
      (zS_J0_charAt_5068e_5007 x2 I).bind fun q3 =>
      if (I 2 (Int32.toNatClampNeg ((I 62 1) + x2))) = q3 then (
        some (.inl (x2 + (1 : Int32)))) else (
        some (.inr (.inr (0 : Int32))))) else none)
def zT_isWord_62_5007_l28  (I : iq_I) (n : Nat) (v : Int32) : Option ((Unit) ⊕ (Int32)) := iq_lp (fun v => zT_isWord_62_5007_l28_b I v) n v
def zT_isWord_62_5007  (I : iq_I) : Option (Int32) :=
  if ¬ (I 62 0) = (1 : Int32) then (
    some (0 : Int32)) else (
    (zS_J0_length_8abf5_5007 I).bind fun q1 =>
    if ((I 62 4) - (I 62 1)) = q1 then (
      (zT_isWord_62_5007_l28 I ir_F (0 : Int32)).bind fun w4 =>
      ir_sm w4 (fun a5 =>
        some (1 : Int32)) (fun b6 => some b6)) else (
      some (0 : Int32)))
def zG_putSaying (x1 : Int32) (I : iq_I) : Option (iq_I) :=
  if (5 : Int32) ≤ (I 50 0) then (
    some I) else (
    if iq_in (I 50 0) 5 then (
      ir_let (iq_upI I 51 (Int32.toNatClampNeg (I 50 0)) x1) fun I1 =>
      if iq_in (I1 50 0) 5 then (
        ir_let (iq_upI I1 52 (Int32.toNatClampNeg (I1 50 0)) (0 : Int32)) fun I2 =>
        ir_let (iq_upI I2 50 0 ((I2 50 0) + (1 : Int32))) fun I3 =>
        some I3) else none) else none)
def zU_leadsTo_38 (x1 : Int32) (x2 : Int32) (I : iq_I) : Option (Int32) :=
  if x1 < 0 then (
    some (-1 : Int32)) else (
    if (I 38 0) ≤ x1 then (
      some (-1 : Int32)) else (
      if x2 < 0 then (
        some (-1 : Int32)) else (
        if x2 < (I 38 2) then (
          if iq_in x2 14 then (
            if iq_in ((x1 * (8 : Int32)) + (I 40 (Int32.toNatClampNeg x2))) 80 then (
              some (I 48 (Int32.toNatClampNeg ((x1 * (8 : Int32)) + (I 40 (Int32.toNatClampNeg x2)))))) else none) else none) else (
          some (-1 : Int32)))))
def zR_isWordOfSaying_30 (x2 : Int32) (I : iq_I) : Option (Int32 × iq_I) :=
  (zR_isToldNumber (I 38 2) I).bind fun q1 =>
  if ¬ q1.1 = 0 then (
    (zT_number q1.2).bind fun q2 =>
    (zU_leadsTo_38 x2 q2 q1.2).bind fun q3 =>
    if ¬ q3 = (-1 : Int32) then (
      some ((1 : Int32), q1.2)) else (
      (zR_refuse (6 : Int32) q1.2).bind fun q4 =>
      if q4.1 = 0 ∨ q4.1 = 1 then some (q4.1, q4.2) else none)) else (
    some ((0 : Int32), q1.2))
def zR_isWordOfSaying (x1 : Int32) (x2 : Int32) (I : iq_I) : Option (Int32 × iq_I) :=
  if ¬ (I 62 0) = (2 : Int32) then (
    zR_isWordOfSaying_30 x2 I) else (
    (zG_lengthOf_50 x1 I).bind fun q5 =>
    if q5 < (40 : Int32) then (
      zR_isWordOfSaying_30 x2 I) else (
      (zR_refuse (2 : Int32) I).bind fun q6 =>
      if q6.1 = 0 ∨ q6.1 = 1 then some (q6.1, q6.2) else none))
def zR_readSaying_l73_b (x1 : Int32)  (x2 : Int32) (x3 : Int32) (I : iq_I) : Option ((Int32 × Int32 × iq_I) ⊕ ((iq_I) ⊕ (Int32 × iq_I))) :=
  if (40 : Int32) < x3 then (
    some (.inr (.inl I))) else (
    (zT_isSign (59 : Int32) I).bind fun q6 =>
    if ¬ q6 = 0 then (
      some (.inr (.inl I))) else (
      (zR_isWordOfSaying x1 x2 I).bind fun q7 =>
      if ¬ q7.1 = 0 then (
        (zT_number q7.2).bind fun q8 =>
        (zU_leadsTo_38 x2 q8 q7.2).bind fun q9 =>
        (zT_number q7.2).bind fun q10 =>
        (zG_putIn_50 x1 x3 q10 q7.2).bind fun q11 =>
        (zT_next q11).bind fun q12 =>
        some (.inl (q9, (x3 + (1 : Int32)), q12))) else (
        some (.inr (.inr ((0 : Int32), q7.2))))))
def zR_readSaying_l73 (x1 : Int32)  (n : Nat) (v : Int32 × Int32 × iq_I) : Option ((iq_I) ⊕ (Int32 × iq_I)) := iq_lp (fun v => zR_readSaying_l73_b x1 v.1 v.2.1 v.2.2) n v
def zR_readSaying_147  (I : iq_I) : Option (Int32 × iq_I) :=
  (zR_passLineEnd I).bind fun q16 =>
  if q16.1 = 0 ∨ q16.1 = 1 then some (q16.1, q16.2) else none
def zR_readSaying  (I : iq_I) : Option (Int32 × iq_I) :=
  if (I 50 0) < (5 : Int32) then (
    (zT_next I).bind fun q1 =>
    (zR_isToldNumber (q1 38 0) q1).bind fun q2 =>
    if ¬ q2.1 = 0 then (
      (zT_number q2.2).bind fun q3 =>
      (zG_putSaying q3 q2.2).bind fun q4 =>
      (zT_next q4).bind fun q5 =>
      (zR_readSaying_l73 (q2.2 50 0) ir_F (q3, (0 : Int32), q5)).bind fun w13 =>
      ir_sm w13 (fun a14 =>
        zR_readSaying_147 a14) (fun b15 => some b15)) else (
      some ((0 : Int32), q2.2))) else (
    (zR_refuse (2 : Int32) I).bind fun q17 =>
    if q17.1 = 0 ∨ q17.1 = 1 then some (q17.1, q17.2) else none)
def zS_J0_coder_7d493_5008  (I : iq_I) : Option (Int32) :=
  some (0 : Int32)
def zS_J0_length_8abf5_5008  (I : iq_I) : Option (Int32) :=
  (zS_J0_coder_7d493_5008 I).bind fun q1 =>
  some ((5 : Int32) >>> (q1 &&& 31))
def zS_J0_isLatin1_aae02_5008  (I : iq_I) : Option (Int32) :=
  some (1 : Int32)
def zS_J1_charAt_3b067_6008 (x1 : Int32) (I : iq_I) : Option (Int32) :=
  (zS_J0_checkIndex_df160 x1 (5 : Int32) I).bind fun q1 =>
  if iq_in x1 5 then (
    if narrow .char (.int ((Int32.toUInt32 ((ir_chr 8 (Int32.toNatClampNeg x1)) &&& (255 : Int32)) % 65536).toInt32)) = .int ((Int32.toUInt32 ((ir_chr 8 (Int32.toNatClampNeg x1)) &&& (255 : Int32)) % 65536).toInt32) then some ((Int32.toUInt32 ((ir_chr 8 (Int32.toNatClampNeg x1)) &&& (255 : Int32)) % 65536).toInt32) else none) else none
def zS_J0_charAt_5068e_5008 (x1 : Int32) (I : iq_I) : Option (Int32) :=
  (zS_J0_isLatin1_aae02_5008 I).bind fun q1 =>
  if q1 = 0 then (
    none) else (
    (zS_J1_charAt_3b067_6008 x1 I).bind fun q2 =>
    if narrow .char (.int q2) = .int q2 then some q2 else none)
def zT_isWord_62_5008_l28_b  (I : iq_I) (x2 : Int32)  : Option ((Int32) ⊕ ((Unit) ⊕ (Int32))) :=
  (zS_J0_length_8abf5_5008 I).bind fun q2 =>
  if q2 ≤ x2 then (
    some (.inr (.inl ()))) else (
    if iq_in ((I 62 1) + x2) 700 then (
      (zS_J0_charAt_5068e_5008 x2 I).bind fun q3 =>
      if (I 2 (Int32.toNatClampNeg ((I 62 1) + x2))) = q3 then (
        some (.inl (x2 + (1 : Int32)))) else (
        some (.inr (.inr (0 : Int32))))) else none)
def zT_isWord_62_5008_l28  (I : iq_I) (n : Nat) (v : Int32) : Option ((Unit) ⊕ (Int32)) := iq_lp (fun v => zT_isWord_62_5008_l28_b I v) n v
def zT_isWord_62_5008  (I : iq_I) : Option (Int32) :=
  if ¬ (I 62 0) = (1 : Int32) then (
    some (0 : Int32)) else (
    (zS_J0_length_8abf5_5008 I).bind fun q1 =>
    if ((I 62 4) - (I 62 1)) = q1 then (
      (zT_isWord_62_5008_l28 I ir_F (0 : Int32)).bind fun w4 =>
      ir_sm w4 (fun a5 =>
        some (1 : Int32)) (fun b6 => some b6)) else (
      some (0 : Int32)))
def zE_begin (x1 : Int32) (I : iq_I) : Option (iq_I) :=
  if x1 < 0 then (
    some I) else (
    if (5 : Int32) ≤ x1 then (
      some I) else (
      if iq_in x1 5 then (
        ir_let (iq_upI I 44 (Int32.toNatClampNeg x1) (I 42 2)) fun I1 =>
        some I1) else none))
