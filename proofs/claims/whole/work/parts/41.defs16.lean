/-! ===== the methods as pure functions (printed by wip/whole/emitall.py, split.py) ===== -/
def zT_isWord_62_5016_l28_b  (I : iq_I) (x2 : Int32)  : Option ((Int32) ⊕ ((Unit) ⊕ (Int32))) :=
  (zS_J0_length_8abf5_5016 I).bind fun q2 =>
  if q2 ≤ x2 then (
    some (.inr (.inl ()))) else (
    if iq_in ((I 62 1) + x2) 700 then (
      (zS_J0_charAt_5068e_5016 x2 I).bind fun q3 =>
      if (I 2 (Int32.toNatClampNeg ((I 62 1) + x2))) = q3 then (
        some (.inl (x2 + (1 : Int32)))) else (
        some (.inr (.inr (0 : Int32))))) else none)
def zT_isWord_62_5016_l28  (I : iq_I) (n : Nat) (v : Int32) : Option ((Unit) ⊕ (Int32)) := iq_lp (fun v => zT_isWord_62_5016_l28_b I v) n v
def zT_isWord_62_5016  (I : iq_I) : Option (Int32) :=
  if ¬ (I 62 0) = (1 : Int32) then (
    some (0 : Int32)) else (
    (zS_J0_length_8abf5_5016 I).bind fun q1 =>
    if ((I 62 4) - (I 62 1)) = q1 then (
      (zT_isWord_62_5016_l28 I ir_F (0 : Int32)).bind fun w4 =>
      ir_sm w4 (fun a5 =>
        some (1 : Int32)) (fun b6 => some b6)) else (
      some (0 : Int32)))
def zR_readAnd_l12_b (R : Nat → Int32 → iq_I → Option (Int32 × iq_I)) (x1 : Int32)  (x2 : Int32) (I : iq_I) : Option ((Int32 × iq_I) ⊕ ((iq_I) ⊕ (Int32 × iq_I))) :=
  if (700 : Int32) ≤ x2 then (
    some (.inr (.inl I))) else (
    (zT_isWord_62_5016 I).bind fun q2 =>
    if q2 = 0 then (
      some (.inr (.inl I))) else (
      (zT_next I).bind fun q3 =>
      (R 101 x1 q3).bind fun q4 =>
      if ¬ q4.1 = 0 then (
        (zE_step (-10 : Int32) q4.2).bind fun q5 =>
        some (.inl ((x2 + (1 : Int32)), q5))) else (
        some (.inr (.inr ((0 : Int32), q4.2))))))
def zR_readAnd_l12 (R : Nat → Int32 → iq_I → Option (Int32 × iq_I)) (x1 : Int32)  (n : Nat) (v : Int32 × iq_I) : Option ((iq_I) ⊕ (Int32 × iq_I)) := iq_lp (fun v => zR_readAnd_l12_b R x1 v.1 v.2) n v
def zR_readAnd (R : Nat → Int32 → iq_I → Option (Int32 × iq_I)) (x1 : Int32) (I : iq_I) : Option (Int32 × iq_I) :=
  (R 101 x1 I).bind fun q1 =>
  if ¬ q1.1 = 0 then (
    (zR_readAnd_l12 R x1 ir_F ((0 : Int32), q1.2)).bind fun w6 =>
    ir_sm w6 (fun a7 =>
      some ((1 : Int32), a7)) (fun b8 => some b8)) else (
    some ((0 : Int32), q1.2))
def zS_J0_coder_7d493_5017  (I : iq_I) : Option (Int32) :=
  some (0 : Int32)
def zS_J0_length_8abf5_5017  (I : iq_I) : Option (Int32) :=
  (zS_J0_coder_7d493_5017 I).bind fun q1 =>
  some ((2 : Int32) >>> (q1 &&& 31))
def zS_J0_isLatin1_aae02_5017  (I : iq_I) : Option (Int32) :=
  some (1 : Int32)
def zS_J1_charAt_3b067_6017 (x1 : Int32) (I : iq_I) : Option (Int32) :=
  (zS_J0_checkIndex_df160 x1 (2 : Int32) I).bind fun q1 =>
  if iq_in x1 2 then (
    if narrow .char (.int ((Int32.toUInt32 ((ir_chr 17 (Int32.toNatClampNeg x1)) &&& (255 : Int32)) % 65536).toInt32)) = .int ((Int32.toUInt32 ((ir_chr 17 (Int32.toNatClampNeg x1)) &&& (255 : Int32)) % 65536).toInt32) then some ((Int32.toUInt32 ((ir_chr 17 (Int32.toNatClampNeg x1)) &&& (255 : Int32)) % 65536).toInt32) else none) else none
def zS_J0_charAt_5068e_5017 (x1 : Int32) (I : iq_I) : Option (Int32) :=
  (zS_J0_isLatin1_aae02_5017 I).bind fun q1 =>
  if q1 = 0 then (
    none) else (
    (zS_J1_charAt_3b067_6017 x1 I).bind fun q2 =>
    if narrow .char (.int q2) = .int q2 then some q2 else none)
def zT_isWord_62_5017_l28_b  (I : iq_I) (x2 : Int32)  : Option ((Int32) ⊕ ((Unit) ⊕ (Int32))) :=
  (zS_J0_length_8abf5_5017 I).bind fun q2 =>
  if q2 ≤ x2 then (
    some (.inr (.inl ()))) else (
    if iq_in ((I 62 1) + x2) 700 then (
      (zS_J0_charAt_5068e_5017 x2 I).bind fun q3 =>
      if (I 2 (Int32.toNatClampNeg ((I 62 1) + x2))) = q3 then (
        some (.inl (x2 + (1 : Int32)))) else (
        some (.inr (.inr (0 : Int32))))) else none)
def zT_isWord_62_5017_l28  (I : iq_I) (n : Nat) (v : Int32) : Option ((Unit) ⊕ (Int32)) := iq_lp (fun v => zT_isWord_62_5017_l28_b I v) n v
def zT_isWord_62_5017  (I : iq_I) : Option (Int32) :=
  if ¬ (I 62 0) = (1 : Int32) then (
    some (0 : Int32)) else (
    (zS_J0_length_8abf5_5017 I).bind fun q1 =>
    if ((I 62 4) - (I 62 1)) = q1 then (
      (zT_isWord_62_5017_l28 I ir_F (0 : Int32)).bind fun w4 =>
      ir_sm w4 (fun a5 =>
        some (1 : Int32)) (fun b6 => some b6)) else (
      some (0 : Int32)))
def zR_readExpr_l35_b (R : Nat → Int32 → iq_I → Option (Int32 × iq_I)) (x1 : Int32)  (x2 : Int32) (I : iq_I) : Option ((Int32 × iq_I) ⊕ ((iq_I) ⊕ (Int32 × iq_I))) :=
  if (700 : Int32) ≤ x2 then (
    some (.inr (.inl I))) else (
    (zT_isWord_62_5017 I).bind fun q2 =>
    if q2 = 0 then (
      some (.inr (.inl I))) else (
      (zT_next I).bind fun q3 =>
      (R 100 x1 q3).bind fun q4 =>
      if ¬ q4.1 = 0 then (
        (zE_step (-9 : Int32) q4.2).bind fun q5 =>
        some (.inl ((x2 + (1 : Int32)), q5))) else (
        some (.inr (.inr ((0 : Int32), q4.2))))))
def zR_readExpr_l35 (R : Nat → Int32 → iq_I → Option (Int32 × iq_I)) (x1 : Int32)  (n : Nat) (v : Int32 × iq_I) : Option ((iq_I) ⊕ (Int32 × iq_I)) := iq_lp (fun v => zR_readExpr_l35_b R x1 v.1 v.2) n v
def zR_readExpr_19 (R : Nat → Int32 → iq_I → Option (Int32 × iq_I)) (s1 : Int32) (I : iq_I) : Option (Int32 × iq_I) :=
  (zR_refuse s1 I).bind fun q10 =>
  if q10.1 = 0 ∨ q10.1 = 1 then some (q10.1, q10.2) else none
def zR_readExpr (R : Nat → Int32 → iq_I → Option (Int32 × iq_I)) (x1 : Int32) (I : iq_I) : Option (Int32 × iq_I) :=
  if x1 < (6 : Int32) then (
    (R 100 x1 I).bind fun q1 =>
    if ¬ q1.1 = 0 then (
      (zR_readExpr_l35 R x1 ir_F ((0 : Int32), q1.2)).bind fun w6 =>
      ir_sm w6 (fun a7 =>
        some ((1 : Int32), a7)) (fun b8 => some b8)) else (
      some ((0 : Int32), q1.2))) else (
    (zR_canBeginExpr I).bind fun q9 =>
    if q9 = 0 then (
      zR_readExpr_19 R (1 : Int32) I) else (
      zR_readExpr_19 R (2 : Int32) I))
def zR_rec : Nat → Nat → Int32 → iq_I → Option (Int32 × iq_I)
  | 0 => fun _ _ _ => none
  | d + 1 => fun t x I =>
    if t = 105 then zR_readPart (zR_rec d) x I else
    if t = 104 then zR_readProduct (zR_rec d) x I else
    if t = 103 then zR_readSum (zR_rec d) x I else
    if t = 102 then zR_readTest (zR_rec d) x I else
    if t = 101 then zR_readNot (zR_rec d) x I else
    if t = 100 then zR_readAnd (zR_rec d) x I else
    if t = 98 then zR_readExpr (zR_rec d) x I else
    none
def zE_end (x1 : Int32) (I : iq_I) : Option (iq_I) :=
  if x1 < 0 then (
    some I) else (
    if (5 : Int32) ≤ x1 then (
      some I) else (
      if iq_in x1 5 then (
        ir_let (iq_upI I 45 (Int32.toNatClampNeg x1) (I 42 2)) fun I1 =>
        some I1) else none))
def zR_readRule (x1 : Int32) (I : iq_I) : Option (Int32 × iq_I) :=
  (zT_next I).bind fun q1 =>
  (zE_begin x1 q1).bind fun q2 =>
  (zR_rec ir_RD 98 (0 : Int32) q2).bind fun q3 =>
  if ¬ q3.1 = 0 then (
    (zE_end x1 q3.2).bind fun q4 =>
    (zR_passLineEnd q4).bind fun q5 =>
    if q5.1 = 0 ∨ q5.1 = 1 then some (q5.1, q5.2) else none) else (
    some ((0 : Int32), q3.2))
def zR_readHabit  (I : iq_I) : Option (Int32 × iq_I) :=
  if (I 42 0) < (4 : Int32) then (
    ir_let (iq_upI I 42 0 ((I 42 0) + (1 : Int32))) fun I1 =>
    (zR_readRule (I 42 0) I1).bind fun q2 =>
    if q2.1 = 0 ∨ q2.1 = 1 then some (q2.1, q2.2) else none) else (
    (zR_refuse (2 : Int32) I).bind fun q3 =>
    if q3.1 = 0 ∨ q3.1 = 1 then some (q3.1, q3.2) else none)
def zS_J0_coder_7d493_5018  (I : iq_I) : Option (Int32) :=
  some (0 : Int32)
def zS_J0_length_8abf5_5018  (I : iq_I) : Option (Int32) :=
  (zS_J0_coder_7d493_5018 I).bind fun q1 =>
  some ((3 : Int32) >>> (q1 &&& 31))
def zS_J0_isLatin1_aae02_5018  (I : iq_I) : Option (Int32) :=
  some (1 : Int32)
def zS_J1_charAt_3b067_6018 (x1 : Int32) (I : iq_I) : Option (Int32) :=
  (zS_J0_checkIndex_df160 x1 (3 : Int32) I).bind fun q1 =>
  if iq_in x1 3 then (
    if narrow .char (.int ((Int32.toUInt32 ((ir_chr 18 (Int32.toNatClampNeg x1)) &&& (255 : Int32)) % 65536).toInt32)) = .int ((Int32.toUInt32 ((ir_chr 18 (Int32.toNatClampNeg x1)) &&& (255 : Int32)) % 65536).toInt32) then some ((Int32.toUInt32 ((ir_chr 18 (Int32.toNatClampNeg x1)) &&& (255 : Int32)) % 65536).toInt32) else none) else none
def zS_J0_charAt_5068e_5018 (x1 : Int32) (I : iq_I) : Option (Int32) :=
  (zS_J0_isLatin1_aae02_5018 I).bind fun q1 =>
  if q1 = 0 then (
    none) else (
    (zS_J1_charAt_3b067_6018 x1 I).bind fun q2 =>
    if narrow .char (.int q2) = .int q2 then some q2 else none)
def zT_isWord_62_5018_l28_b  (I : iq_I) (x2 : Int32)  : Option ((Int32) ⊕ ((Unit) ⊕ (Int32))) :=
  (zS_J0_length_8abf5_5018 I).bind fun q2 =>
  if q2 ≤ x2 then (
    some (.inr (.inl ()))) else (
    if iq_in ((I 62 1) + x2) 700 then (
      (zS_J0_charAt_5068e_5018 x2 I).bind fun q3 =>
      if (I 2 (Int32.toNatClampNeg ((I 62 1) + x2))) = q3 then (
        some (.inl (x2 + (1 : Int32)))) else (
        some (.inr (.inr (0 : Int32))))) else none)
def zT_isWord_62_5018_l28  (I : iq_I) (n : Nat) (v : Int32) : Option ((Unit) ⊕ (Int32)) := iq_lp (fun v => zT_isWord_62_5018_l28_b I v) n v
def zT_isWord_62_5018  (I : iq_I) : Option (Int32) :=
  if ¬ (I 62 0) = (1 : Int32) then (
    some (0 : Int32)) else (
    (zS_J0_length_8abf5_5018 I).bind fun q1 =>
    if ((I 62 4) - (I 62 1)) = q1 then (
      (zT_isWord_62_5018_l28 I ir_F (0 : Int32)).bind fun w4 =>
      ir_sm w4 (fun a5 =>
        some (1 : Int32)) (fun b6 => some b6)) else (
      some (0 : Int32)))
def zR_readLaw  (I : iq_I) : Option (Int32 × iq_I) :=
  if (I 42 1) = 0 then (
    ir_let (iq_upI I 42 1 (1 : Int32)) fun I1 =>
    (zR_readRule (4 : Int32) I1).bind fun q2 =>
    if q2.1 = 0 ∨ q2.1 = 1 then some (q2.1, q2.2) else none) else (
    (zR_refuse (5 : Int32) I).bind fun q3 =>
    if q3.1 = 0 ∨ q3.1 = 1 then some (q3.1, q3.2) else none)
def zR_readLine  (I : iq_I) : Option (Int32 × iq_I) :=
  (zT_isWord_62_5002 I).bind fun q1 =>
  if q1 = 0 then (
    (zT_isWord_62_5004 I).bind fun q2 =>
    if q2 = 0 then (
      (zT_isWord_62_5005 I).bind fun q3 =>
      if q3 = 0 then (
        (zT_isWord_62_5006 I).bind fun q4 =>
        if q4 = 0 then (
          (zT_isWord_62_5007 I).bind fun q5 =>
          if q5 = 0 then (
            (zT_isWord_62_5008 I).bind fun q6 =>
            if q6 = 0 then (
              (zT_isWord_62_5018 I).bind fun q7 =>
              if q7 = 0 then (
                (zR_refuse (1 : Int32) I).bind fun q8 =>
                if q8.1 = 0 ∨ q8.1 = 1 then some (q8.1, q8.2) else none) else (
                (zR_readLaw I).bind fun q9 =>
                if q9.1 = 0 ∨ q9.1 = 1 then some (q9.1, q9.2) else none)) else (
              (zR_readHabit I).bind fun q10 =>
              if q10.1 = 0 ∨ q10.1 = 1 then some (q10.1, q10.2) else none)) else (
            (zR_readSaying I).bind fun q11 =>
            if q11.1 = 0 ∨ q11.1 = 1 then some (q11.1, q11.2) else none)) else (
          (zR_readCost I).bind fun q12 =>
          if q12.1 = 0 ∨ q12.1 = 1 then some (q12.1, q12.2) else none)) else (
        (zR_readArc I).bind fun q13 =>
        if q13.1 = 0 ∨ q13.1 = 1 then some (q13.1, q13.2) else none)) else (
      (zR_readWord I).bind fun q14 =>
      if q14.1 = 0 ∨ q14.1 = 1 then some (q14.1, q14.2) else none)) else (
    (zR_readState I).bind fun q15 =>
    if q15.1 = 0 ∨ q15.1 = 1 then some (q15.1, q15.2) else none)
def zR_read_l34_b   (x2 : Int32) (I : iq_I) : Option ((Int32 × iq_I) ⊕ ((iq_I) ⊕ (Int32 × iq_I))) :=
  if (700 : Int32) < x2 then (
    some (.inr (.inl I))) else (
    if (I 62 0) = 0 then (
      some (.inr (.inr ((I 61 1), I)))) else (
      (zR_readLine I).bind fun q6 =>
      if ¬ q6.1 = 0 then (
        some (.inl ((x2 + (1 : Int32)), q6.2))) else (
        some (.inr (.inr ((q6.2 61 1), q6.2))))))
def zR_read_l34   (n : Nat) (v : Int32 × iq_I) : Option ((iq_I) ⊕ (Int32 × iq_I)) := iq_lp (fun v => zR_read_l34_b  v.1 v.2) n v
def zR_read (x1 : Int32) (I : iq_I) : Option (Int32 × iq_I) :=
  (zU_clear I).bind fun q1 =>
  (zG_clear q1).bind fun q2 =>
  ir_let (iq_upI q2 61 1 (0 : Int32)) fun I3 =>
  ir_let (iq_upI I3 61 0 (-1 : Int32)) fun I4 =>
  (zT_begin x1 I4).bind fun q5 =>
  (zR_read_l34  ir_F ((0 : Int32), q5)).bind fun w7 =>
  ir_sm w7 (fun a8 =>
    some ((a8 61 1), a8)) (fun b9 => some b9)
def zE_copyFrom  (I : iq_I) : Option (iq_I) :=
  ir_let (iq_upI I 8 0 (I 42 0)) fun I1 =>
  if (I1 42 1) = 0 ∨ (I1 42 1) = 1 then (
    ir_let (iq_upI I1 8 1 (I1 42 1)) fun I2 =>
    ir_let (iq_upI I2 8 2 (I2 42 2)) fun I3 =>
    ir_let (iq_cpI I3 43 9 0 0 700) fun I4 =>
    ir_let (iq_cpI I4 44 10 0 0 5) fun I5 =>
    ir_let (iq_cpI I5 45 11 0 0 5) fun I6 =>
    some I6) else none
def zU_copyFrom  (I : iq_I) : Option (iq_I) :=
  ir_let (iq_upI I 4 0 (I 38 0)) fun I1 =>
  ir_let (iq_upI I1 4 1 (I1 38 1)) fun I2 =>
  ir_let (iq_upI I2 4 2 (I2 38 2)) fun I3 =>
  ir_let (iq_upI I3 4 3 (I3 38 3)) fun I4 =>
  ir_let (iq_upI I4 4 4 (I4 38 4)) fun I5 =>
  ir_let (iq_upI I5 4 5 (I5 38 5)) fun I6 =>
  ir_let (iq_cpI I6 39 5 0 0 14) fun I7 =>
  ir_let (iq_cpI I7 40 6 0 0 14) fun I8 =>
  ir_let (iq_cpI I8 41 7 0 0 8) fun I9 =>
  ir_let (iq_cpI I9 47 13 0 0 126) fun I10 =>
  ir_let (iq_cpI I10 48 14 0 0 80) fun I11 =>
  ir_let (iq_cpI I11 49 15 0 0 8) fun I12 =>
  (zE_copyFrom I12).bind fun q13 =>
  some q13
def zA_copyFrom_19_53  (I : iq_I) : Option (iq_I) :=
  ir_let (iq_upI I 19 0 (I 53 0)) fun I1 =>
  ir_let (iq_cpI I1 54 20 0 0 40) fun I2 =>
  ir_let (iq_cpI I2 55 21 0 0 40) fun I3 =>
  ir_let (iq_cpI I3 56 22 0 0 40) fun I4 =>
  ir_let (iq_cpI I4 57 23 0 0 40) fun I5 =>
  some I5
def zG_copyFrom_16_50  (I : iq_I) : Option (iq_I) :=
  ir_let (iq_upI I 16 0 (I 50 0)) fun I1 =>
  ir_let (iq_upI I1 16 1 (I1 50 1)) fun I2 =>
  ir_let (iq_upI I2 16 2 (I2 50 2)) fun I3 =>
  ir_let (iq_cpI I3 51 17 0 0 5) fun I4 =>
  ir_let (iq_cpI I4 52 18 0 0 5) fun I5 =>
  ir_let (iq_cpI I5 58 24 0 0 200) fun I6 =>
  ir_let (iq_cpI I6 59 25 0 0 3) fun I7 =>
  ir_let (iq_cpI I7 60 26 0 0 3) fun I8 =>
  (zA_copyFrom_19_53 I8).bind fun q9 =>
  some q9
def zO_museum_12  (I : iq_I) (X : iq_X) : Option ((Int32 ⊕ Nat) × iq_I × iq_X) :=
  some (.inr 1, I, (ir_xx X))
def zO_museum (x1 : Int32) (I : iq_I) (X : iq_X) : Option ((Int32 ⊕ Nat) × iq_I × iq_X) :=
  if x1 < 0 then (
    zO_museum_12 I X) else (
    if x1 ≤ (I 1 11) then (
      ir_let (iq_upI I 1 11 (0 : Int32)) fun I1 =>
      (zR_read x1 I1).bind fun q2 =>
      if q2.1 = 0 then (
        ir_let (iq_upI q2.2 1 12 (-1 : Int32)) fun I3 =>
        (zU_copyFrom I3).bind fun q4 =>
        (zG_copyFrom_16_50 q4).bind fun q5 =>
        ir_let (iq_upI q5 1 13 (0 : Int32)) fun I6 =>
        some (.inl (0 : Int32), I6, X)) else (
        ir_let (iq_upI q2.2 1 12 (q2.2 61 0)) fun I7 =>
        ir_let (iq_upI I7 3 0 ((I7 3 0) + (1 : Int32))) fun I8 =>
        some (.inl q2.1, I8, X))) else (
      zO_museum_12 I X))
def zL_museum (x1 : Int32) (I : iq_I) (J : iq_J) (X : iq_X) : Option (Int32 × iq_I × iq_J × iq_X) :=
  (zO_museum x1 I X).bind fun q1 =>
  iq_sm q1.1 (fun a2 =>
    ir_let (iq_upJ J 114 0 (Int32.toInt64 a2)) fun J4 =>
    some ((0 : Int32), q1.2.1, J4, q1.2.2)) (fun k3 => if k3 = 0 then (
    none) else (
  if k3 = 1 then (
    some ((1 : Int32), q1.2.1, J, q1.2.2)) else none))
def zM_byteAt (x1 : Int32) (I : iq_I) : Option (Int32) :=
  if (I 76 21) ≤ x1 then (
    some (0 : Int32)) else (
    if iq_in x1 700 then (
      some (I 85 (Int32.toNatClampNeg x1))) else none)
def zM_isLetter (x0 : Int32) (I : iq_I) : Option (Int32) :=
  if x0 < (97 : Int32) then (
    some (0 : Int32)) else (
    if (122 : Int32) < x0 then (
      some (0 : Int32)) else (
      some (1 : Int32)))
def zM_isDigit (x0 : Int32) (I : iq_I) : Option (Int32) :=
  if x0 < (48 : Int32) then (
    some (0 : Int32)) else (
    if (57 : Int32) < x0 then (
      some (0 : Int32)) else (
      some (1 : Int32)))
def zM_goes_l0_b  (J : iq_J)  (I : iq_I) : Option ((iq_I) ⊕ (iq_I)) :=
  if (I 76 21) ≤ (I 76 22) then (
    some (.inr I)) else (
    (zM_byteAt (I 76 22) I).bind fun q1 =>
    if q1 = (32 : Int32) then (
      ir_let (iq_upI I 76 22 ((I 76 22) + (1 : Int32))) fun I2 =>
      some (.inl I2)) else (
      (zM_byteAt (I 76 22) I).bind fun q3 =>
      if ¬ q3 = (10 : Int32) then (
        some (.inr I)) else (
        ir_let (iq_upI I 76 22 ((I 76 22) + (1 : Int32))) fun I4 =>
        some (.inl I4))))
def zM_goes_l0  (J : iq_J) (n : Nat) (v : iq_I) : Option (iq_I) := iq_lp (fun v => zM_goes_l0_b J v) n v
def zM_goes_323  (I : iq_I) (J : iq_J) : Option (iq_I × iq_J) :=
  ir_let (iq_upI I 76 23 (3 : Int32)) fun I14 =>
  ir_let (iq_upI I14 76 25 ((I14 76 22) - (I14 76 24))) fun I15 =>
  some (I15, J)
def zM_goes_l187_b  (J : iq_J)  (I : iq_I) : Option ((iq_I) ⊕ (iq_I)) :=
  (zM_byteAt (I 76 22) I).bind fun q18 =>
  (zM_isDigit q18 I).bind fun q19 =>
  if q19 = 0 then (
    some (.inr I)) else (
    if (4 : Int32) ≤ ((I 76 22) - (I 76 24)) then (
      ir_let (iq_upI I 76 22 ((I 76 22) + (1 : Int32))) fun I20 =>
      some (.inl I20)) else (
      (zM_byteAt (I 76 22) I).bind fun q21 =>
      ir_let (iq_upI I 76 26 ((((10 : Int32) * (I 76 26)) + q21) - (48 : Int32))) fun I22 =>
      ir_let (iq_upI I22 76 22 ((I22 76 22) + (1 : Int32))) fun I23 =>
      some (.inl I23)))
def zM_goes_l187  (J : iq_J) (n : Nat) (v : iq_I) : Option (iq_I) := iq_lp (fun v => zM_goes_l187_b J v) n v
def zM_goes_l108_b    (I : iq_I) (J : iq_J) : Option ((iq_I × iq_J) ⊕ (iq_I × iq_J)) :=
  (zM_byteAt (I 76 22) I).bind fun q27 =>
  (zM_isLetter q27 I).bind fun q28 =>
  if q28 = 0 then (
    some (.inr (I, J))) else (
    if (7 : Int32) ≤ ((I 76 22) - (I 76 24)) then (
      ir_let (iq_upI I 76 22 ((I 76 22) + (1 : Int32))) fun I29 =>
      some (.inl (I29, J))) else (
      (zM_byteAt (I 76 22) I).bind fun q30 =>
      ir_let (iq_upJ J 76 28 (((J 76 28) <<< (Int32.toInt64 (5 : Int32) &&& 63)) ||| (Int32.toInt64 (q30 - (96 : Int32))))) fun J31 =>
      ir_let (iq_upI I 76 22 ((I 76 22) + (1 : Int32))) fun I32 =>
      some (.inl (I32, J31))))
def zM_goes_l108   (n : Nat) (v : iq_I × iq_J) : Option (iq_I × iq_J) := iq_lp (fun v => zM_goes_l108_b  v.1 v.2) n v
def zM_goes_50  (I : iq_I) (J : iq_J) : Option (iq_I × iq_J) :=
  ir_let (iq_upI I 76 24 (I 76 22)) fun I6 =>
  ir_let (iq_upJ J 76 28 (0 : Int64)) fun J7 =>
  ir_let (iq_upI I6 76 26 (0 : Int32)) fun I8 =>
  (zM_byteAt (I8 76 22) I8).bind fun q9 =>
  ir_let (iq_upI I8 76 27 q9) fun I10 =>
  if (I10 76 22) < (I10 76 21) then (
    (zM_isLetter q9 I10).bind fun q11 =>
    if q11 = 0 then (
      (zM_isDigit q9 I10).bind fun q12 =>
      if q12 = 0 then (
        ir_let (iq_upI I10 76 22 ((I10 76 22) + (1 : Int32))) fun I13 =>
        if q9 = (59 : Int32) then (
          zM_goes_323 I13 J7) else (
          if q9 = (40 : Int32) then (
            zM_goes_323 I13 J7) else (
            if q9 = (41 : Int32) then (
              zM_goes_323 I13 J7) else (
              if q9 = (43 : Int32) then (
                zM_goes_323 I13 J7) else (
                if q9 = (45 : Int32) then (
                  zM_goes_323 I13 J7) else (
                  if q9 = (42 : Int32) then (
                    zM_goes_323 I13 J7) else (
                    if q9 = (47 : Int32) then (
                      zM_goes_323 I13 J7) else (
                      if q9 = (60 : Int32) then (
                        zM_goes_323 I13 J7) else (
                        if ¬ q9 = (61 : Int32) then (
                          ir_let (iq_upI I13 76 23 (4 : Int32)) fun I16 =>
                          ir_let (iq_upI I16 76 25 ((I16 76 22) - (I16 76 24))) fun I17 =>
                          some (I17, J7)) else (
                          zM_goes_323 I13 J7)))))))))) else (
        (zM_goes_l187 J7 ir_F I10).bind fun w24 =>
        ir_let (iq_upI w24 76 23 (2 : Int32)) fun I25 =>
        ir_let (iq_upI I25 76 25 ((I25 76 22) - (I25 76 24))) fun I26 =>
        some (I26, J7))) else (
      (zM_goes_l108  ir_F (I10, J7)).bind fun w33 =>
      ir_let (iq_upI w33.1 76 23 (1 : Int32)) fun I34 =>
      ir_let (iq_upI I34 76 25 ((I34 76 22) - (I34 76 24))) fun I35 =>
      some (I35, w33.2))) else (
    ir_let (iq_upI I10 76 23 (0 : Int32)) fun I36 =>
    ir_let (iq_upI I36 76 25 ((I36 76 22) - (I36 76 24))) fun I37 =>
    some (I37, J7))
def zM_goes  (I : iq_I) (J : iq_J) : Option (iq_I × iq_J) :=
  (zM_goes_l0 J ir_F I).bind fun w5 =>
  zM_goes_50 w5 J
