/-! ===== the methods as pure functions (printed by wip/whole/emitall.py, split.py) ===== -/
def zR_canBeginExpr  (I : iq_I) : Option (Int32) :=
  if (I 62 0) = (2 : Int32) then (
    some (1 : Int32)) else (
    if (I 62 0) = (1 : Int32) then (
      some (1 : Int32)) else (
      (zT_isSign (40 : Int32) I).bind fun q1 =>
      if q1 = 0 then (
        some (0 : Int32)) else (
        some (1 : Int32))))
def zS_J0_coder_7d493_5009  (I : iq_I) : Option (Int32) :=
  some (0 : Int32)
def zS_J0_length_8abf5_5009  (I : iq_I) : Option (Int32) :=
  (zS_J0_coder_7d493_5009 I).bind fun q1 =>
  some ((3 : Int32) >>> (q1 &&& 31))
def zS_J0_isLatin1_aae02_5009  (I : iq_I) : Option (Int32) :=
  some (1 : Int32)
def zS_J1_charAt_3b067_6009 (x1 : Int32) (I : iq_I) : Option (Int32) :=
  (zS_J0_checkIndex_df160 x1 (3 : Int32) I).bind fun q1 =>
  if iq_in x1 3 then (
    if narrow .char (.int ((Int32.toUInt32 ((ir_chr 9 (Int32.toNatClampNeg x1)) &&& (255 : Int32)) % 65536).toInt32)) = .int ((Int32.toUInt32 ((ir_chr 9 (Int32.toNatClampNeg x1)) &&& (255 : Int32)) % 65536).toInt32) then some ((Int32.toUInt32 ((ir_chr 9 (Int32.toNatClampNeg x1)) &&& (255 : Int32)) % 65536).toInt32) else none) else none
def zS_J0_charAt_5068e_5009 (x1 : Int32) (I : iq_I) : Option (Int32) :=
  (zS_J0_isLatin1_aae02_5009 I).bind fun q1 =>
  if q1 = 0 then (
    none) else (
    (zS_J1_charAt_3b067_6009 x1 I).bind fun q2 =>
    if narrow .char (.int q2) = .int q2 then some q2 else none)
def zT_isWord_62_5009_l28_b  (I : iq_I) (x2 : Int32)  : Option ((Int32) ⊕ ((Unit) ⊕ (Int32))) :=
  (zS_J0_length_8abf5_5009 I).bind fun q2 =>
  if q2 ≤ x2 then (
    some (.inr (.inl ()))) else (
    if iq_in ((I 62 1) + x2) 700 then (
      (zS_J0_charAt_5068e_5009 x2 I).bind fun q3 =>
      if (I 2 (Int32.toNatClampNeg ((I 62 1) + x2))) = q3 then (
        some (.inl (x2 + (1 : Int32)))) else (
        some (.inr (.inr (0 : Int32))))) else none)
def zT_isWord_62_5009_l28  (I : iq_I) (n : Nat) (v : Int32) : Option ((Unit) ⊕ (Int32)) := iq_lp (fun v => zT_isWord_62_5009_l28_b I v) n v
def zT_isWord_62_5009  (I : iq_I) : Option (Int32) :=
  if ¬ (I 62 0) = (1 : Int32) then (
    some (0 : Int32)) else (
    (zS_J0_length_8abf5_5009 I).bind fun q1 =>
    if ((I 62 4) - (I 62 1)) = q1 then (
      (zT_isWord_62_5009_l28 I ir_F (0 : Int32)).bind fun w4 =>
      ir_sm w4 (fun a5 =>
        some (1 : Int32)) (fun b6 => some b6)) else (
      some (0 : Int32)))
def zS_J0_coder_7d493_5010  (I : iq_I) : Option (Int32) :=
  some (0 : Int32)
def zS_J0_length_8abf5_5010  (I : iq_I) : Option (Int32) :=
  (zS_J0_coder_7d493_5010 I).bind fun q1 =>
  some ((4 : Int32) >>> (q1 &&& 31))
def zS_J0_isLatin1_aae02_5010  (I : iq_I) : Option (Int32) :=
  some (1 : Int32)
def zS_J1_charAt_3b067_6010 (x1 : Int32) (I : iq_I) : Option (Int32) :=
  (zS_J0_checkIndex_df160 x1 (4 : Int32) I).bind fun q1 =>
  if iq_in x1 4 then (
    if narrow .char (.int ((Int32.toUInt32 ((ir_chr 10 (Int32.toNatClampNeg x1)) &&& (255 : Int32)) % 65536).toInt32)) = .int ((Int32.toUInt32 ((ir_chr 10 (Int32.toNatClampNeg x1)) &&& (255 : Int32)) % 65536).toInt32) then some ((Int32.toUInt32 ((ir_chr 10 (Int32.toNatClampNeg x1)) &&& (255 : Int32)) % 65536).toInt32) else none) else none
def zS_J0_charAt_5068e_5010 (x1 : Int32) (I : iq_I) : Option (Int32) :=
  (zS_J0_isLatin1_aae02_5010 I).bind fun q1 =>
  if q1 = 0 then (
    none) else (
    (zS_J1_charAt_3b067_6010 x1 I).bind fun q2 =>
    if narrow .char (.int q2) = .int q2 then some q2 else none)
def zT_isWord_62_5010_l28_b  (I : iq_I) (x2 : Int32)  : Option ((Int32) ⊕ ((Unit) ⊕ (Int32))) :=
  (zS_J0_length_8abf5_5010 I).bind fun q2 =>
  if q2 ≤ x2 then (
    some (.inr (.inl ()))) else (
    if iq_in ((I 62 1) + x2) 700 then (
      (zS_J0_charAt_5068e_5010 x2 I).bind fun q3 =>
      if (I 2 (Int32.toNatClampNeg ((I 62 1) + x2))) = q3 then (
        some (.inl (x2 + (1 : Int32)))) else (
        some (.inr (.inr (0 : Int32))))) else none)
def zT_isWord_62_5010_l28  (I : iq_I) (n : Nat) (v : Int32) : Option ((Unit) ⊕ (Int32)) := iq_lp (fun v => zT_isWord_62_5010_l28_b I v) n v
def zT_isWord_62_5010  (I : iq_I) : Option (Int32) :=
  if ¬ (I 62 0) = (1 : Int32) then (
    some (0 : Int32)) else (
    (zS_J0_length_8abf5_5010 I).bind fun q1 =>
    if ((I 62 4) - (I 62 1)) = q1 then (
      (zT_isWord_62_5010_l28 I ir_F (0 : Int32)).bind fun w4 =>
      ir_sm w4 (fun a5 =>
        some (1 : Int32)) (fun b6 => some b6)) else (
      some (0 : Int32)))
def zS_J0_coder_7d493_5011  (I : iq_I) : Option (Int32) :=
  some (0 : Int32)
def zS_J0_length_8abf5_5011  (I : iq_I) : Option (Int32) :=
  (zS_J0_coder_7d493_5011 I).bind fun q1 =>
  some ((7 : Int32) >>> (q1 &&& 31))
def zS_J0_isLatin1_aae02_5011  (I : iq_I) : Option (Int32) :=
  some (1 : Int32)
def zS_J1_charAt_3b067_6011 (x1 : Int32) (I : iq_I) : Option (Int32) :=
  (zS_J0_checkIndex_df160 x1 (7 : Int32) I).bind fun q1 =>
  if iq_in x1 7 then (
    if narrow .char (.int ((Int32.toUInt32 ((ir_chr 11 (Int32.toNatClampNeg x1)) &&& (255 : Int32)) % 65536).toInt32)) = .int ((Int32.toUInt32 ((ir_chr 11 (Int32.toNatClampNeg x1)) &&& (255 : Int32)) % 65536).toInt32) then some ((Int32.toUInt32 ((ir_chr 11 (Int32.toNatClampNeg x1)) &&& (255 : Int32)) % 65536).toInt32) else none) else none
def zS_J0_charAt_5068e_5011 (x1 : Int32) (I : iq_I) : Option (Int32) :=
  (zS_J0_isLatin1_aae02_5011 I).bind fun q1 =>
  if q1 = 0 then (
    none) else (
    (zS_J1_charAt_3b067_6011 x1 I).bind fun q2 =>
    if narrow .char (.int q2) = .int q2 then some q2 else none)
def zT_isWord_62_5011_l28_b  (I : iq_I) (x2 : Int32)  : Option ((Int32) ⊕ ((Unit) ⊕ (Int32))) :=
  (zS_J0_length_8abf5_5011 I).bind fun q2 =>
  if q2 ≤ x2 then (
    some (.inr (.inl ()))) else (
    if iq_in ((I 62 1) + x2) 700 then (
      (zS_J0_charAt_5068e_5011 x2 I).bind fun q3 =>
      if (I 2 (Int32.toNatClampNeg ((I 62 1) + x2))) = q3 then (
        some (.inl (x2 + (1 : Int32)))) else (
        some (.inr (.inr (0 : Int32))))) else none)
def zT_isWord_62_5011_l28  (I : iq_I) (n : Nat) (v : Int32) : Option ((Unit) ⊕ (Int32)) := iq_lp (fun v => zT_isWord_62_5011_l28_b I v) n v
def zT_isWord_62_5011  (I : iq_I) : Option (Int32) :=
  if ¬ (I 62 0) = (1 : Int32) then (
    some (0 : Int32)) else (
    (zS_J0_length_8abf5_5011 I).bind fun q1 =>
    if ((I 62 4) - (I 62 1)) = q1 then (
      (zT_isWord_62_5011_l28 I ir_F (0 : Int32)).bind fun w4 =>
      ir_sm w4 (fun a5 =>
        some (1 : Int32)) (fun b6 => some b6)) else (
      some (0 : Int32)))
def zS_J0_coder_7d493_5012  (I : iq_I) : Option (Int32) :=
  some (0 : Int32)
def zS_J0_length_8abf5_5012  (I : iq_I) : Option (Int32) :=
  (zS_J0_coder_7d493_5012 I).bind fun q1 =>
  some ((3 : Int32) >>> (q1 &&& 31))
def zS_J0_isLatin1_aae02_5012  (I : iq_I) : Option (Int32) :=
  some (1 : Int32)
def zS_J1_charAt_3b067_6012 (x1 : Int32) (I : iq_I) : Option (Int32) :=
  (zS_J0_checkIndex_df160 x1 (3 : Int32) I).bind fun q1 =>
  if iq_in x1 3 then (
    if narrow .char (.int ((Int32.toUInt32 ((ir_chr 12 (Int32.toNatClampNeg x1)) &&& (255 : Int32)) % 65536).toInt32)) = .int ((Int32.toUInt32 ((ir_chr 12 (Int32.toNatClampNeg x1)) &&& (255 : Int32)) % 65536).toInt32) then some ((Int32.toUInt32 ((ir_chr 12 (Int32.toNatClampNeg x1)) &&& (255 : Int32)) % 65536).toInt32) else none) else none
def zS_J0_charAt_5068e_5012 (x1 : Int32) (I : iq_I) : Option (Int32) :=
  (zS_J0_isLatin1_aae02_5012 I).bind fun q1 =>
  if q1 = 0 then (
    none) else (
    (zS_J1_charAt_3b067_6012 x1 I).bind fun q2 =>
    if narrow .char (.int q2) = .int q2 then some q2 else none)
def zT_isWord_62_5012_l28_b  (I : iq_I) (x2 : Int32)  : Option ((Int32) ⊕ ((Unit) ⊕ (Int32))) :=
  (zS_J0_length_8abf5_5012 I).bind fun q2 =>
  if q2 ≤ x2 then (
    some (.inr (.inl ()))) else (
    if iq_in ((I 62 1) + x2) 700 then (
      (zS_J0_charAt_5068e_5012 x2 I).bind fun q3 =>
      if (I 2 (Int32.toNatClampNeg ((I 62 1) + x2))) = q3 then (
        some (.inl (x2 + (1 : Int32)))) else (
        some (.inr (.inr (0 : Int32))))) else none)
def zT_isWord_62_5012_l28  (I : iq_I) (n : Nat) (v : Int32) : Option ((Unit) ⊕ (Int32)) := iq_lp (fun v => zT_isWord_62_5012_l28_b I v) n v
def zT_isWord_62_5012  (I : iq_I) : Option (Int32) :=
  if ¬ (I 62 0) = (1 : Int32) then (
    some (0 : Int32)) else (
    (zS_J0_length_8abf5_5012 I).bind fun q1 =>
    if ((I 62 4) - (I 62 1)) = q1 then (
      (zT_isWord_62_5012_l28 I ir_F (0 : Int32)).bind fun w4 =>
      ir_sm w4 (fun a5 =>
        some (1 : Int32)) (fun b6 => some b6)) else (
      some (0 : Int32)))
def zS_J0_coder_7d493_5013  (I : iq_I) : Option (Int32) :=
  some (0 : Int32)
def zS_J0_length_8abf5_5013  (I : iq_I) : Option (Int32) :=
  (zS_J0_coder_7d493_5013 I).bind fun q1 =>
  some ((4 : Int32) >>> (q1 &&& 31))
def zS_J0_isLatin1_aae02_5013  (I : iq_I) : Option (Int32) :=
  some (1 : Int32)
def zS_J1_charAt_3b067_6013 (x1 : Int32) (I : iq_I) : Option (Int32) :=
  (zS_J0_checkIndex_df160 x1 (4 : Int32) I).bind fun q1 =>
  if iq_in x1 4 then (
    if narrow .char (.int ((Int32.toUInt32 ((ir_chr 13 (Int32.toNatClampNeg x1)) &&& (255 : Int32)) % 65536).toInt32)) = .int ((Int32.toUInt32 ((ir_chr 13 (Int32.toNatClampNeg x1)) &&& (255 : Int32)) % 65536).toInt32) then some ((Int32.toUInt32 ((ir_chr 13 (Int32.toNatClampNeg x1)) &&& (255 : Int32)) % 65536).toInt32) else none) else none
def zS_J0_charAt_5068e_5013 (x1 : Int32) (I : iq_I) : Option (Int32) :=
  (zS_J0_isLatin1_aae02_5013 I).bind fun q1 =>
  if q1 = 0 then (
    none) else (
    (zS_J1_charAt_3b067_6013 x1 I).bind fun q2 =>
    if narrow .char (.int q2) = .int q2 then some q2 else none)
def zT_isWord_62_5013_l28_b  (I : iq_I) (x2 : Int32)  : Option ((Int32) ⊕ ((Unit) ⊕ (Int32))) :=
  (zS_J0_length_8abf5_5013 I).bind fun q2 =>
  if q2 ≤ x2 then (
    some (.inr (.inl ()))) else (
    if iq_in ((I 62 1) + x2) 700 then (
      (zS_J0_charAt_5068e_5013 x2 I).bind fun q3 =>
      if (I 2 (Int32.toNatClampNeg ((I 62 1) + x2))) = q3 then (
        some (.inl (x2 + (1 : Int32)))) else (
        some (.inr (.inr (0 : Int32))))) else none)
def zT_isWord_62_5013_l28  (I : iq_I) (n : Nat) (v : Int32) : Option ((Unit) ⊕ (Int32)) := iq_lp (fun v => zT_isWord_62_5013_l28_b I v) n v
def zT_isWord_62_5013  (I : iq_I) : Option (Int32) :=
  if ¬ (I 62 0) = (1 : Int32) then (
    some (0 : Int32)) else (
    (zS_J0_length_8abf5_5013 I).bind fun q1 =>
    if ((I 62 4) - (I 62 1)) = q1 then (
      (zT_isWord_62_5013_l28 I ir_F (0 : Int32)).bind fun w4 =>
      ir_sm w4 (fun a5 =>
        some (1 : Int32)) (fun b6 => some b6)) else (
      some (0 : Int32)))
def zS_J0_coder_7d493_5014  (I : iq_I) : Option (Int32) :=
  some (0 : Int32)
def zS_J0_length_8abf5_5014  (I : iq_I) : Option (Int32) :=
  (zS_J0_coder_7d493_5014 I).bind fun q1 =>
  some ((4 : Int32) >>> (q1 &&& 31))
def zS_J0_isLatin1_aae02_5014  (I : iq_I) : Option (Int32) :=
  some (1 : Int32)
def zS_J1_charAt_3b067_6014 (x1 : Int32) (I : iq_I) : Option (Int32) :=
  (zS_J0_checkIndex_df160 x1 (4 : Int32) I).bind fun q1 =>
  if iq_in x1 4 then (
    if narrow .char (.int ((Int32.toUInt32 ((ir_chr 14 (Int32.toNatClampNeg x1)) &&& (255 : Int32)) % 65536).toInt32)) = .int ((Int32.toUInt32 ((ir_chr 14 (Int32.toNatClampNeg x1)) &&& (255 : Int32)) % 65536).toInt32) then some ((Int32.toUInt32 ((ir_chr 14 (Int32.toNatClampNeg x1)) &&& (255 : Int32)) % 65536).toInt32) else none) else none
def zS_J0_charAt_5068e_5014 (x1 : Int32) (I : iq_I) : Option (Int32) :=
  (zS_J0_isLatin1_aae02_5014 I).bind fun q1 =>
  if q1 = 0 then (
    none) else (
    (zS_J1_charAt_3b067_6014 x1 I).bind fun q2 =>
    if narrow .char (.int q2) = .int q2 then some q2 else none)
def zT_isWord_62_5014_l28_b  (I : iq_I) (x2 : Int32)  : Option ((Int32) ⊕ ((Unit) ⊕ (Int32))) :=
  (zS_J0_length_8abf5_5014 I).bind fun q2 =>
  if q2 ≤ x2 then (
    some (.inr (.inl ()))) else (
    if iq_in ((I 62 1) + x2) 700 then (
      (zS_J0_charAt_5068e_5014 x2 I).bind fun q3 =>
      if (I 2 (Int32.toNatClampNeg ((I 62 1) + x2))) = q3 then (
        some (.inl (x2 + (1 : Int32)))) else (
        some (.inr (.inr (0 : Int32))))) else none)
def zT_isWord_62_5014_l28  (I : iq_I) (n : Nat) (v : Int32) : Option ((Unit) ⊕ (Int32)) := iq_lp (fun v => zT_isWord_62_5014_l28_b I v) n v
def zT_isWord_62_5014  (I : iq_I) : Option (Int32) :=
  if ¬ (I 62 0) = (1 : Int32) then (
    some (0 : Int32)) else (
    (zS_J0_length_8abf5_5014 I).bind fun q1 =>
    if ((I 62 4) - (I 62 1)) = q1 then (
      (zT_isWord_62_5014_l28 I ir_F (0 : Int32)).bind fun w4 =>
      ir_sm w4 (fun a5 =>
        some (1 : Int32)) (fun b6 => some b6)) else (
      some (0 : Int32)))
def zS_J0_coder_7d493_5015  (I : iq_I) : Option (Int32) :=
  some (0 : Int32)
def zS_J0_length_8abf5_5015  (I : iq_I) : Option (Int32) :=
  (zS_J0_coder_7d493_5015 I).bind fun q1 =>
  some ((6 : Int32) >>> (q1 &&& 31))
def zS_J0_isLatin1_aae02_5015  (I : iq_I) : Option (Int32) :=
  some (1 : Int32)
def zS_J1_charAt_3b067_6015 (x1 : Int32) (I : iq_I) : Option (Int32) :=
  (zS_J0_checkIndex_df160 x1 (6 : Int32) I).bind fun q1 =>
  if iq_in x1 6 then (
    if narrow .char (.int ((Int32.toUInt32 ((ir_chr 15 (Int32.toNatClampNeg x1)) &&& (255 : Int32)) % 65536).toInt32)) = .int ((Int32.toUInt32 ((ir_chr 15 (Int32.toNatClampNeg x1)) &&& (255 : Int32)) % 65536).toInt32) then some ((Int32.toUInt32 ((ir_chr 15 (Int32.toNatClampNeg x1)) &&& (255 : Int32)) % 65536).toInt32) else none) else none
def zS_J0_charAt_5068e_5015 (x1 : Int32) (I : iq_I) : Option (Int32) :=
  (zS_J0_isLatin1_aae02_5015 I).bind fun q1 =>
  if q1 = 0 then (
    none) else (
    (zS_J1_charAt_3b067_6015 x1 I).bind fun q2 =>
    if narrow .char (.int q2) = .int q2 then some q2 else none)
def zT_isWord_62_5015_l28_b  (I : iq_I) (x2 : Int32)  : Option ((Int32) ⊕ ((Unit) ⊕ (Int32))) :=
  (zS_J0_length_8abf5_5015 I).bind fun q2 =>
  if q2 ≤ x2 then (
    some (.inr (.inl ()))) else (
    if iq_in ((I 62 1) + x2) 700 then (
      (zS_J0_charAt_5068e_5015 x2 I).bind fun q3 =>
      if (I 2 (Int32.toNatClampNeg ((I 62 1) + x2))) = q3 then (
        some (.inl (x2 + (1 : Int32)))) else (
        some (.inr (.inr (0 : Int32))))) else none)
def zT_isWord_62_5015_l28  (I : iq_I) (n : Nat) (v : Int32) : Option ((Unit) ⊕ (Int32)) := iq_lp (fun v => zT_isWord_62_5015_l28_b I v) n v
def zT_isWord_62_5015  (I : iq_I) : Option (Int32) :=
  if ¬ (I 62 0) = (1 : Int32) then (
    some (0 : Int32)) else (
    (zS_J0_length_8abf5_5015 I).bind fun q1 =>
    if ((I 62 4) - (I 62 1)) = q1 then (
      (zT_isWord_62_5015_l28 I ir_F (0 : Int32)).bind fun w4 =>
      ir_sm w4 (fun a5 =>
        some (1 : Int32)) (fun b6 => some b6)) else (
      some (0 : Int32)))
def zR_valueNamed  (I : iq_I) : Option (Int32) :=
  (zT_isWord_62_5010 I).bind fun q1 =>
  if q1 = 0 then (
    (zT_isWord_62_5011 I).bind fun q2 =>
    if q2 = 0 then (
      (zT_isWord_62_5004 I).bind fun q3 =>
      if q3 = 0 then (
        (zT_isWord_62_5012 I).bind fun q4 =>
        if q4 = 0 then (
          (zT_isWord_62_5013 I).bind fun q5 =>
          if q5 = 0 then (
            (zT_isWord_62_5014 I).bind fun q6 =>
            if q6 = 0 then (
              (zT_isWord_62_5015 I).bind fun q7 =>
              if q7 = 0 then (
                some (-1 : Int32)) else (
                some (6 : Int32))) else (
              some (5 : Int32))) else (
            some (4 : Int32))) else (
          some (3 : Int32))) else (
        some (2 : Int32))) else (
      some (1 : Int32))) else (
    some (0 : Int32))
def zE_stepOfValue (x0 : Int32) (I : iq_I) : Option (Int32) :=
  some ((-1 : Int32) - x0)
def zE_step (x1 : Int32) (I : iq_I) : Option (iq_I) :=
  if (700 : Int32) ≤ (I 42 2) then (
    some I) else (
    if iq_in (I 42 2) 700 then (
      ir_let (iq_upI I 43 (Int32.toNatClampNeg (I 42 2)) x1) fun I1 =>
      ir_let (iq_upI I1 42 2 ((I1 42 2) + (1 : Int32))) fun I2 =>
      some I2) else none)
def zR_readPart_122 (R : Nat → Int32 → iq_I → Option (Int32 × iq_I))  (I : iq_I) : Option (Int32 × iq_I) :=
  (zT_next I).bind fun q5 =>
  some ((1 : Int32), q5)
def zR_readPart (R : Nat → Int32 → iq_I → Option (Int32 × iq_I)) (x1 : Int32) (I : iq_I) : Option (Int32 × iq_I) :=
  (zT_isSign (40 : Int32) I).bind fun q1 =>
  if q1 = 0 then (
    if ¬ (I 62 0) = (1 : Int32) then (
      (zR_isNumberTo (9999 : Int32) I).bind fun q2 =>
      if ¬ q2.1 = 0 then (
        (zT_number q2.2).bind fun q3 =>
        (zE_step q3 q2.2).bind fun q4 =>
        zR_readPart_122 R q4) else (
        some ((0 : Int32), q2.2))) else (
      (zR_valueNamed I).bind fun q6 =>
      if ¬ q6 = (-1 : Int32) then (
        (zE_stepOfValue q6 I).bind fun q7 =>
        (zE_step q7 I).bind fun q8 =>
        zR_readPart_122 R q8) else (
        (zR_refuse (3 : Int32) I).bind fun q9 =>
        if q9.1 = 0 ∨ q9.1 = 1 then some (q9.1, q9.2) else none))) else (
    (zT_next I).bind fun q10 =>
    (R 98 (x1 + (1 : Int32)) q10).bind fun q11 =>
    if ¬ q11.1 = 0 then (
      (zT_isSign (41 : Int32) q11.2).bind fun q12 =>
      if ¬ q12 = 0 then (
        zR_readPart_122 R q11.2) else (
        (zR_refuse (1 : Int32) q11.2).bind fun q13 =>
        if q13.1 = 0 ∨ q13.1 = 1 then some (q13.1, q13.2) else none)) else (
      some ((0 : Int32), q11.2)))
def zR_readProduct_82 (R : Nat → Int32 → iq_I → Option (Int32 × iq_I)) (x1 : Int32) (x2 : Int32) (s1 : Int32) (I : iq_I) : Option ((Int32 × iq_I) ⊕ ((iq_I) ⊕ (Int32 × iq_I))) :=
  (zE_step s1 I).bind fun q5 =>
  some (.inl ((x2 + (1 : Int32)), q5))
def zR_readProduct_47 (R : Nat → Int32 → iq_I → Option (Int32 × iq_I)) (x1 : Int32) (x2 : Int32) (x3 : Int32) (I : iq_I) : Option ((Int32 × iq_I) ⊕ ((iq_I) ⊕ (Int32 × iq_I))) :=
  (zT_next I).bind fun q3 =>
  (R 105 x1 q3).bind fun q4 =>
  if ¬ q4.1 = 0 then (
    if x3 = 0 then (
      zR_readProduct_82 R x1 x2 (-16 : Int32) q4.2) else (
      zR_readProduct_82 R x1 x2 (-15 : Int32) q4.2)) else (
    some (.inr (.inr ((0 : Int32), q4.2))))
def zR_readProduct_l12_b (R : Nat → Int32 → iq_I → Option (Int32 × iq_I)) (x1 : Int32)  (x2 : Int32) (I : iq_I) : Option ((Int32 × iq_I) ⊕ ((iq_I) ⊕ (Int32 × iq_I))) :=
  if (700 : Int32) ≤ x2 then (
    some (.inr (.inl I))) else (
    (zT_isSign (42 : Int32) I).bind fun q2 =>
    if ¬ q2 = 0 then (
      zR_readProduct_47 R x1 x2 q2 I) else (
      (zT_isSign (47 : Int32) I).bind fun q6 =>
      if ¬ q6 = 0 then (
        zR_readProduct_47 R x1 x2 q2 I) else (
        some (.inr (.inr ((1 : Int32), I))))))
def zR_readProduct_l12 (R : Nat → Int32 → iq_I → Option (Int32 × iq_I)) (x1 : Int32)  (n : Nat) (v : Int32 × iq_I) : Option ((iq_I) ⊕ (Int32 × iq_I)) := iq_lp (fun v => zR_readProduct_l12_b R x1 v.1 v.2) n v
def zR_readProduct (R : Nat → Int32 → iq_I → Option (Int32 × iq_I)) (x1 : Int32) (I : iq_I) : Option (Int32 × iq_I) :=
  (R 105 x1 I).bind fun q1 =>
  if ¬ q1.1 = 0 then (
    (zR_readProduct_l12 R x1 ir_F ((0 : Int32), q1.2)).bind fun w7 =>
    ir_sm w7 (fun a8 =>
      some ((1 : Int32), a8)) (fun b9 => some b9)) else (
    some ((0 : Int32), q1.2))
