/-! ===== the methods as pure functions (printed by wip/whole/emitall.py, split.py) ===== -/
def zR_readSum_82 (R : Nat → Int32 → iq_I → Option (Int32 × iq_I)) (x1 : Int32) (x2 : Int32) (s1 : Int32) (I : iq_I) : Option ((Int32 × iq_I) ⊕ ((iq_I) ⊕ (Int32 × iq_I))) :=
  (zE_step s1 I).bind fun q5 =>
  some (.inl ((x2 + (1 : Int32)), q5))
def zR_readSum_47 (R : Nat → Int32 → iq_I → Option (Int32 × iq_I)) (x1 : Int32) (x2 : Int32) (x3 : Int32) (I : iq_I) : Option ((Int32 × iq_I) ⊕ ((iq_I) ⊕ (Int32 × iq_I))) :=
  (zT_next I).bind fun q3 =>
  (R 104 x1 q3).bind fun q4 =>
  if ¬ q4.1 = 0 then (
    if x3 = 0 then (
      zR_readSum_82 R x1 x2 (-14 : Int32) q4.2) else (
      zR_readSum_82 R x1 x2 (-13 : Int32) q4.2)) else (
    some (.inr (.inr ((0 : Int32), q4.2))))
def zR_readSum_l12_b (R : Nat → Int32 → iq_I → Option (Int32 × iq_I)) (x1 : Int32)  (x2 : Int32) (I : iq_I) : Option ((Int32 × iq_I) ⊕ ((iq_I) ⊕ (Int32 × iq_I))) :=
  if (700 : Int32) ≤ x2 then (
    some (.inr (.inl I))) else (
    (zT_isSign (43 : Int32) I).bind fun q2 =>
    if ¬ q2 = 0 then (
      zR_readSum_47 R x1 x2 q2 I) else (
      (zT_isSign (45 : Int32) I).bind fun q6 =>
      if ¬ q6 = 0 then (
        zR_readSum_47 R x1 x2 q2 I) else (
        some (.inr (.inr ((1 : Int32), I))))))
def zR_readSum_l12 (R : Nat → Int32 → iq_I → Option (Int32 × iq_I)) (x1 : Int32)  (n : Nat) (v : Int32 × iq_I) : Option ((iq_I) ⊕ (Int32 × iq_I)) := iq_lp (fun v => zR_readSum_l12_b R x1 v.1 v.2) n v
def zR_readSum (R : Nat → Int32 → iq_I → Option (Int32 × iq_I)) (x1 : Int32) (I : iq_I) : Option (Int32 × iq_I) :=
  (R 104 x1 I).bind fun q1 =>
  if ¬ q1.1 = 0 then (
    (zR_readSum_l12 R x1 ir_F ((0 : Int32), q1.2)).bind fun w7 =>
    ir_sm w7 (fun a8 =>
      some ((1 : Int32), a8)) (fun b9 => some b9)) else (
    some ((0 : Int32), q1.2))
def zR_readTest_73 (R : Nat → Int32 → iq_I → Option (Int32 × iq_I)) (s1 : Int32) (I : iq_I) : Option (Int32 × iq_I) :=
  (zE_step s1 I).bind fun q5 =>
  some ((1 : Int32), q5)
def zR_readTest_38 (R : Nat → Int32 → iq_I → Option (Int32 × iq_I)) (x1 : Int32) (x2 : Int32) (I : iq_I) : Option (Int32 × iq_I) :=
  (zT_next I).bind fun q3 =>
  (R 103 x1 q3).bind fun q4 =>
  if ¬ q4.1 = 0 then (
    if x2 = 0 then (
      zR_readTest_73 R (-12 : Int32) q4.2) else (
      zR_readTest_73 R (-11 : Int32) q4.2)) else (
    some ((0 : Int32), q4.2))
def zR_readTest (R : Nat → Int32 → iq_I → Option (Int32 × iq_I)) (x1 : Int32) (I : iq_I) : Option (Int32 × iq_I) :=
  (R 103 x1 I).bind fun q1 =>
  if ¬ q1.1 = 0 then (
    (zT_isSign (60 : Int32) q1.2).bind fun q2 =>
    if ¬ q2 = 0 then (
      zR_readTest_38 R x1 q2 q1.2) else (
      (zT_isSign (61 : Int32) q1.2).bind fun q6 =>
      if ¬ q6 = 0 then (
        zR_readTest_38 R x1 q2 q1.2) else (
        some ((1 : Int32), q1.2)))) else (
    some ((0 : Int32), q1.2))
def zR_readNot_l2_b (R : Nat → Int32 → iq_I → Option (Int32 × iq_I)) (x1 : Int32)  (x2 : Int32) (I : iq_I) : Option ((Int32 × iq_I) ⊕ ((Int32 × iq_I) ⊕ (Int32 × iq_I))) :=
  if (6 : Int32) < x2 then (
    some (.inr (.inl (x2, I)))) else (
    (zT_isWord_62_5009 I).bind fun q1 =>
    if q1 = 0 then (
      some (.inr (.inl (x2, I)))) else (
      if (x2 + (1 : Int32)) ≤ (6 : Int32) then (
        (zT_next I).bind fun q2 =>
        some (.inl ((x2 + (1 : Int32)), q2))) else (
        (zR_refuse (2 : Int32) I).bind fun q3 =>
        if q3.1 = 0 ∨ q3.1 = 1 then some (.inr (.inr (q3.1, q3.2))) else none)))
def zR_readNot_l2 (R : Nat → Int32 → iq_I → Option (Int32 × iq_I)) (x1 : Int32)  (n : Nat) (v : Int32 × iq_I) : Option ((Int32 × iq_I) ⊕ (Int32 × iq_I)) := iq_lp (fun v => zR_readNot_l2_b R x1 v.1 v.2) n v
def zR_readNot_l57_b (R : Nat → Int32 → iq_I → Option (Int32 × iq_I)) (x2 : Int32)  (x3 : Int32) (I : iq_I) : Option ((Int32 × iq_I) ⊕ (iq_I)) :=
  if x2 ≤ x3 then (
    some (.inr I)) else (
    (zE_step (-8 : Int32) I).bind fun q8 =>
    some (.inl ((x3 + (1 : Int32)), q8)))
def zR_readNot_l57 (R : Nat → Int32 → iq_I → Option (Int32 × iq_I)) (x2 : Int32)  (n : Nat) (v : Int32 × iq_I) : Option (iq_I) := iq_lp (fun v => zR_readNot_l57_b R x2 v.1 v.2) n v
def zR_readNot_45 (R : Nat → Int32 → iq_I → Option (Int32 × iq_I)) (x1 : Int32) (x2 : Int32) (I : iq_I) : Option (Int32 × iq_I) :=
  (R 102 x1 I).bind fun q7 =>
  if ¬ q7.1 = 0 then (
    (zR_readNot_l57 R x2 ir_F ((0 : Int32), q7.2)).bind fun w9 =>
    some ((1 : Int32), w9)) else (
    some ((0 : Int32), q7.2))
def zR_readNot (R : Nat → Int32 → iq_I → Option (Int32 × iq_I)) (x1 : Int32) (I : iq_I) : Option (Int32 × iq_I) :=
  (zR_readNot_l2 R x1 ir_F ((0 : Int32), I)).bind fun w4 =>
  ir_sm w4 (fun a5 =>
    zR_readNot_45 R x1 a5.1 a5.2) (fun b6 => some b6)
def zS_J0_coder_7d493_5016  (I : iq_I) : Option (Int32) :=
  some (0 : Int32)
def zS_J0_length_8abf5_5016  (I : iq_I) : Option (Int32) :=
  (zS_J0_coder_7d493_5016 I).bind fun q1 =>
  some ((3 : Int32) >>> (q1 &&& 31))
def zS_J0_isLatin1_aae02_5016  (I : iq_I) : Option (Int32) :=
  some (1 : Int32)
def zS_J1_charAt_3b067_6016 (x1 : Int32) (I : iq_I) : Option (Int32) :=
  (zS_J0_checkIndex_df160 x1 (3 : Int32) I).bind fun q1 =>
  if iq_in x1 3 then (
    if narrow .char (.int ((Int32.toUInt32 ((ir_chr 16 (Int32.toNatClampNeg x1)) &&& (255 : Int32)) % 65536).toInt32)) = .int ((Int32.toUInt32 ((ir_chr 16 (Int32.toNatClampNeg x1)) &&& (255 : Int32)) % 65536).toInt32) then some ((Int32.toUInt32 ((ir_chr 16 (Int32.toNatClampNeg x1)) &&& (255 : Int32)) % 65536).toInt32) else none) else none
def zS_J0_charAt_5068e_5016 (x1 : Int32) (I : iq_I) : Option (Int32) :=
  (zS_J0_isLatin1_aae02_5016 I).bind fun q1 =>
  if q1 = 0 then (
    none) else (
    (zS_J1_charAt_3b067_6016 x1 I).bind fun q2 =>
    if narrow .char (.int q2) = .int q2 then some q2 else none)
def zT_isWord_62_5016_l28_b  (I : iq_I) (x2 : Int32)  : Option ((Int32) ⊕ ((Unit) ⊕ (Int32))) :=
  (zS_J0_length_8abf5_5016 I).bind fun q2 =>
  if q2 ≤ x2 then (
    some (.inr (.inl ()))) else (
    if iq_in ((I 62 1) + x2) 700 then (
      (zS_J0_charAt_5068e_5016 x2 I).bind fun q3 =>
      if (I 2 (Int32.toNatClampNeg ((I 62 1) + x2))) = q3 then (
        some (.inl (x2 + (1 : Int32)))) else (
        some (.inr (.inr (0 : Int32))))) else none)
def zT_isWord_62_5016_l28  (I : iq_I) (n : Nat) (v : Int32) : Option ((Unit) ⊕ (Int32)) := iq_lp (fun v => zT_isWord_62_5016_l28_b I v) n v
def zT_isWord_62_5016  (I : iq_I) : Option (Int32) :=
  if ¬ (I 62 0) = (1 : Int32) then (
    some (0 : Int32)) else (
    (zS_J0_length_8abf5_5016 I).bind fun q1 =>
    if ((I 62 4) - (I 62 1)) = q1 then (
      (zT_isWord_62_5016_l28 I ir_F (0 : Int32)).bind fun w4 =>
      ir_sm w4 (fun a5 =>
        some (1 : Int32)) (fun b6 => some b6)) else (
      some (0 : Int32)))
def zR_readAnd_l12_b (R : Nat → Int32 → iq_I → Option (Int32 × iq_I)) (x1 : Int32)  (x2 : Int32) (I : iq_I) : Option ((Int32 × iq_I) ⊕ ((iq_I) ⊕ (Int32 × iq_I))) :=
  if (700 : Int32) ≤ x2 then (
    some (.inr (.inl I))) else (
    (zT_isWord_62_5016 I).bind fun q2 =>
    if q2 = 0 then (
      some (.inr (.inl I))) else (
      (zT_next I).bind fun q3 =>
      (R 101 x1 q3).bind fun q4 =>
      if ¬ q4.1 = 0 then (
        (zE_step (-10 : Int32) q4.2).bind fun q5 =>
        some (.inl ((x2 + (1 : Int32)), q5))) else (
        some (.inr (.inr ((0 : Int32), q4.2))))))
def zR_readAnd_l12 (R : Nat → Int32 → iq_I → Option (Int32 × iq_I)) (x1 : Int32)  (n : Nat) (v : Int32 × iq_I) : Option ((iq_I) ⊕ (Int32 × iq_I)) := iq_lp (fun v => zR_readAnd_l12_b R x1 v.1 v.2) n v
def zR_readAnd (R : Nat → Int32 → iq_I → Option (Int32 × iq_I)) (x1 : Int32) (I : iq_I) : Option (Int32 × iq_I) :=
  (R 101 x1 I).bind fun q1 =>
  if ¬ q1.1 = 0 then (
    (zR_readAnd_l12 R x1 ir_F ((0 : Int32), q1.2)).bind fun w6 =>
    ir_sm w6 (fun a7 =>
      some ((1 : Int32), a7)) (fun b8 => some b8)) else (
    some ((0 : Int32), q1.2))
def zS_J0_coder_7d493_5017  (I : iq_I) : Option (Int32) :=
  some (0 : Int32)
def zS_J0_length_8abf5_5017  (I : iq_I) : Option (Int32) :=
  (zS_J0_coder_7d493_5017 I).bind fun q1 =>
  some ((2 : Int32) >>> (q1 &&& 31))
def zS_J0_isLatin1_aae02_5017  (I : iq_I) : Option (Int32) :=
  some (1 : Int32)
def zS_J1_charAt_3b067_6017 (x1 : Int32) (I : iq_I) : Option (Int32) :=
  (zS_J0_checkIndex_df160 x1 (2 : Int32) I).bind fun q1 =>
  if iq_in x1 2 then (
    if narrow .char (.int ((Int32.toUInt32 ((ir_chr 17 (Int32.toNatClampNeg x1)) &&& (255 : Int32)) % 65536).toInt32)) = .int ((Int32.toUInt32 ((ir_chr 17 (Int32.toNatClampNeg x1)) &&& (255 : Int32)) % 65536).toInt32) then some ((Int32.toUInt32 ((ir_chr 17 (Int32.toNatClampNeg x1)) &&& (255 : Int32)) % 65536).toInt32) else none) else none
def zS_J0_charAt_5068e_5017 (x1 : Int32) (I : iq_I) : Option (Int32) :=
  (zS_J0_isLatin1_aae02_5017 I).bind fun q1 =>
  if q1 = 0 then (
    none) else (
    (zS_J1_charAt_3b067_6017 x1 I).bind fun q2 =>
    if narrow .char (.int q2) = .int q2 then some q2 else none)
def zT_isWord_62_5017_l28_b  (I : iq_I) (x2 : Int32)  : Option ((Int32) ⊕ ((Unit) ⊕ (Int32))) :=
  (zS_J0_length_8abf5_5017 I).bind fun q2 =>
  if q2 ≤ x2 then (
    some (.inr (.inl ()))) else (
    if iq_in ((I 62 1) + x2) 700 then (
      (zS_J0_charAt_5068e_5017 x2 I).bind fun q3 =>
      if (I 2 (Int32.toNatClampNeg ((I 62 1) + x2))) = q3 then (
        some (.inl (x2 + (1 : Int32)))) else (
        some (.inr (.inr (0 : Int32))))) else none)
def zT_isWord_62_5017_l28  (I : iq_I) (n : Nat) (v : Int32) : Option ((Unit) ⊕ (Int32)) := iq_lp (fun v => zT_isWord_62_5017_l28_b I v) n v
def zT_isWord_62_5017  (I : iq_I) : Option (Int32) :=
  if ¬ (I 62 0) = (1 : Int32) then (
    some (0 : Int32)) else (
    (zS_J0_length_8abf5_5017 I).bind fun q1 =>
    if ((I 62 4) - (I 62 1)) = q1 then (
      (zT_isWord_62_5017_l28 I ir_F (0 : Int32)).bind fun w4 =>
      ir_sm w4 (fun a5 =>
        some (1 : Int32)) (fun b6 => some b6)) else (
      some (0 : Int32)))
def zR_readExpr_l35_b (R : Nat → Int32 → iq_I → Option (Int32 × iq_I)) (x1 : Int32)  (x2 : Int32) (I : iq_I) : Option ((Int32 × iq_I) ⊕ ((iq_I) ⊕ (Int32 × iq_I))) :=
  if (700 : Int32) ≤ x2 then (
    some (.inr (.inl I))) else (
    (zT_isWord_62_5017 I).bind fun q2 =>
    if q2 = 0 then (
      some (.inr (.inl I))) else (
      (zT_next I).bind fun q3 =>
      (R 100 x1 q3).bind fun q4 =>
      if ¬ q4.1 = 0 then (
        (zE_step (-9 : Int32) q4.2).bind fun q5 =>
        some (.inl ((x2 + (1 : Int32)), q5))) else (
        some (.inr (.inr ((0 : Int32), q4.2))))))
def zR_readExpr_l35 (R : Nat → Int32 → iq_I → Option (Int32 × iq_I)) (x1 : Int32)  (n : Nat) (v : Int32 × iq_I) : Option ((iq_I) ⊕ (Int32 × iq_I)) := iq_lp (fun v => zR_readExpr_l35_b R x1 v.1 v.2) n v
def zR_readExpr_19 (R : Nat → Int32 → iq_I → Option (Int32 × iq_I)) (s1 : Int32) (I : iq_I) : Option (Int32 × iq_I) :=
  (zR_refuse s1 I).bind fun q10 =>
  if q10.1 = 0 ∨ q10.1 = 1 then some (q10.1, q10.2) else none
def zR_readExpr (R : Nat → Int32 → iq_I → Option (Int32 × iq_I)) (x1 : Int32) (I : iq_I) : Option (Int32 × iq_I) :=
  if x1 < (6 : Int32) then (
    (R 100 x1 I).bind fun q1 =>
    if ¬ q1.1 = 0 then (
      (zR_readExpr_l35 R x1 ir_F ((0 : Int32), q1.2)).bind fun w6 =>
      ir_sm w6 (fun a7 =>
        some ((1 : Int32), a7)) (fun b8 => some b8)) else (
      some ((0 : Int32), q1.2))) else (
    (zR_canBeginExpr I).bind fun q9 =>
    if q9 = 0 then (
      zR_readExpr_19 R (1 : Int32) I) else (
      zR_readExpr_19 R (2 : Int32) I))
def zR_rec : Nat → Nat → Int32 → iq_I → Option (Int32 × iq_I)
  | 0 => fun _ _ _ => none
  | d + 1 => fun t x I =>
    if t = 105 then zR_readPart (zR_rec d) x I else
    if t = 104 then zR_readProduct (zR_rec d) x I else
    if t = 103 then zR_readSum (zR_rec d) x I else
    if t = 102 then zR_readTest (zR_rec d) x I else
    if t = 101 then zR_readNot (zR_rec d) x I else
    if t = 100 then zR_readAnd (zR_rec d) x I else
    if t = 98 then zR_readExpr (zR_rec d) x I else
    none
def zE_end (x1 : Int32) (I : iq_I) : Option (iq_I) :=
  if x1 < 0 then (
    some I) else (
    if (5 : Int32) ≤ x1 then (
      some I) else (
      if iq_in x1 5 then (
        ir_let (iq_upI I 45 (Int32.toNatClampNeg x1) (I 42 2)) fun I1 =>
        some I1) else none))
def zR_readRule (x1 : Int32) (I : iq_I) : Option (Int32 × iq_I) :=
  (zT_next I).bind fun q1 =>
  (zE_begin x1 q1).bind fun q2 =>
  (zR_rec ir_RD 98 (0 : Int32) q2).bind fun q3 =>
  if ¬ q3.1 = 0 then (
    (zE_end x1 q3.2).bind fun q4 =>
    (zR_passLineEnd q4).bind fun q5 =>
    if q5.1 = 0 ∨ q5.1 = 1 then some (q5.1, q5.2) else none) else (
    some ((0 : Int32), q3.2))
def zR_readHabit  (I : iq_I) : Option (Int32 × iq_I) :=
  if (I 42 0) < (4 : Int32) then (
    ir_let (iq_upI I 42 0 ((I 42 0) + (1 : Int32))) fun I1 =>
    (zR_readRule (I 42 0) I1).bind fun q2 =>
    if q2.1 = 0 ∨ q2.1 = 1 then some (q2.1, q2.2) else none) else (
    (zR_refuse (2 : Int32) I).bind fun q3 =>
    if q3.1 = 0 ∨ q3.1 = 1 then some (q3.1, q3.2) else none)
def zS_J0_coder_7d493_5018  (I : iq_I) : Option (Int32) :=
  some (0 : Int32)
def zS_J0_length_8abf5_5018  (I : iq_I) : Option (Int32) :=
  (zS_J0_coder_7d493_5018 I).bind fun q1 =>
  some ((3 : Int32) >>> (q1 &&& 31))
def zS_J0_isLatin1_aae02_5018  (I : iq_I) : Option (Int32) :=
  some (1 : Int32)
def zS_J1_charAt_3b067_6018 (x1 : Int32) (I : iq_I) : Option (Int32) :=
  (zS_J0_checkIndex_df160 x1 (3 : Int32) I).bind fun q1 =>
  if iq_in x1 3 then (
    if narrow .char (.int ((Int32.toUInt32 ((ir_chr 18 (Int32.toNatClampNeg x1)) &&& (255 : Int32)) % 65536).toInt32)) = .int ((Int32.toUInt32 ((ir_chr 18 (Int32.toNatClampNeg x1)) &&& (255 : Int32)) % 65536).toInt32) then some ((Int32.toUInt32 ((ir_chr 18 (Int32.toNatClampNeg x1)) &&& (255 : Int32)) % 65536).toInt32) else none) else none
def zS_J0_charAt_5068e_5018 (x1 : Int32) (I : iq_I) : Option (Int32) :=
  (zS_J0_isLatin1_aae02_5018 I).bind fun q1 =>
  if q1 = 0 then (
    none) else (
    (zS_J1_charAt_3b067_6018 x1 I).bind fun q2 =>
    if narrow .char (.int q2) = .int q2 then some q2 else none)
def zT_isWord_62_5018_l28_b  (I : iq_I) (x2 : Int32)  : Option ((Int32) ⊕ ((Unit) ⊕ (Int32))) :=
  (zS_J0_length_8abf5_5018 I).bind fun q2 =>
  if q2 ≤ x2 then (
    some (.inr (.inl ()))) else (
    if iq_in ((I 62 1) + x2) 700 then (
      (zS_J0_charAt_5068e_5018 x2 I).bind fun q3 =>
      if (I 2 (Int32.toNatClampNeg ((I 62 1) + x2))) = q3 then (
        some (.inl (x2 + (1 : Int32)))) else (
        some (.inr (.inr (0 : Int32))))) else none)
def zT_isWord_62_5018_l28  (I : iq_I) (n : Nat) (v : Int32) : Option ((Unit) ⊕ (Int32)) := iq_lp (fun v => zT_isWord_62_5018_l28_b I v) n v
def zT_isWord_62_5018  (I : iq_I) : Option (Int32) :=
  if ¬ (I 62 0) = (1 : Int32) then (
    some (0 : Int32)) else (
    (zS_J0_length_8abf5_5018 I).bind fun q1 =>
    if ((I 62 4) - (I 62 1)) = q1 then (
      (zT_isWord_62_5018_l28 I ir_F (0 : Int32)).bind fun w4 =>
      ir_sm w4 (fun a5 =>
        some (1 : Int32)) (fun b6 => some b6)) else (
      some (0 : Int32)))
def zR_readLaw  (I : iq_I) : Option (Int32 × iq_I) :=
  if (I 42 1) = 0 then (
    ir_let (iq_upI I 42 1 (1 : Int32)) fun I1 =>
    (zR_readRule (4 : Int32) I1).bind fun q2 =>
    if q2.1 = 0 ∨ q2.1 = 1 then some (q2.1, q2.2) else none) else (
    (zR_refuse (5 : Int32) I).bind fun q3 =>
    if q3.1 = 0 ∨ q3.1 = 1 then some (q3.1, q3.2) else none)
def zR_readLine  (I : iq_I) : Option (Int32 × iq_I) :=
  (zT_isWord_62_5002 I).bind fun q1 =>
  if q1 = 0 then (
    (zT_isWord_62_5004 I).bind fun q2 =>
    if q2 = 0 then (
      (zT_isWord_62_5005 I).bind fun q3 =>
      if q3 = 0 then (
        (zT_isWord_62_5006 I).bind fun q4 =>
        if q4 = 0 then (
          (zT_isWord_62_5007 I).bind fun q5 =>
          if q5 = 0 then (
            (zT_isWord_62_5008 I).bind fun q6 =>
            if q6 = 0 then (
              (zT_isWord_62_5018 I).bind fun q7 =>
              if q7 = 0 then (
                (zR_refuse (1 : Int32) I).bind fun q8 =>
                if q8.1 = 0 ∨ q8.1 = 1 then some (q8.1, q8.2) else none) else (
                (zR_readLaw I).bind fun q9 =>
                if q9.1 = 0 ∨ q9.1 = 1 then some (q9.1, q9.2) else none)) else (
              (zR_readHabit I).bind fun q10 =>
              if q10.1 = 0 ∨ q10.1 = 1 then some (q10.1, q10.2) else none)) else (
            (zR_readSaying I).bind fun q11 =>
            if q11.1 = 0 ∨ q11.1 = 1 then some (q11.1, q11.2) else none)) else (
          (zR_readCost I).bind fun q12 =>
          if q12.1 = 0 ∨ q12.1 = 1 then some (q12.1, q12.2) else none)) else (
        (zR_readArc I).bind fun q13 =>
        if q13.1 = 0 ∨ q13.1 = 1 then some (q13.1, q13.2) else none)) else (
      (zR_readWord I).bind fun q14 =>
      if q14.1 = 0 ∨ q14.1 = 1 then some (q14.1, q14.2) else none)) else (
    (zR_readState I).bind fun q15 =>
    if q15.1 = 0 ∨ q15.1 = 1 then some (q15.1, q15.2) else none)
def zR_read_l34_b   (x2 : Int32) (I : iq_I) : Option ((Int32 × iq_I) ⊕ ((iq_I) ⊕ (Int32 × iq_I))) :=
  if (700 : Int32) < x2 then (
    some (.inr (.inl I))) else (
    if (I 62 0) = 0 then (
      some (.inr (.inr ((I 61 1), I)))) else (
      (zR_readLine I).bind fun q6 =>
      if ¬ q6.1 = 0 then (
        some (.inl ((x2 + (1 : Int32)), q6.2))) else (
        some (.inr (.inr ((q6.2 61 1), q6.2))))))
def zR_read_l34   (n : Nat) (v : Int32 × iq_I) : Option ((iq_I) ⊕ (Int32 × iq_I)) := iq_lp (fun v => zR_read_l34_b  v.1 v.2) n v
def zR_read (x1 : Int32) (I : iq_I) : Option (Int32 × iq_I) :=
  (zU_clear I).bind fun q1 =>
  (zG_clear q1).bind fun q2 =>
  ir_let (iq_upI q2 61 1 (0 : Int32)) fun I3 =>
  ir_let (iq_upI I3 61 0 (-1 : Int32)) fun I4 =>
  (zT_begin x1 I4).bind fun q5 =>
  (zR_read_l34  ir_F ((0 : Int32), q5)).bind fun w7 =>
  ir_sm w7 (fun a8 =>
    some ((a8 61 1), a8)) (fun b9 => some b9)
def zE_copyFrom  (I : iq_I) : Option (iq_I) :=
  ir_let (iq_upI I 8 0 (I 42 0)) fun I1 =>
  if (I1 42 1) = 0 ∨ (I1 42 1) = 1 then (
    ir_let (iq_upI I1 8 1 (I1 42 1)) fun I2 =>
    ir_let (iq_upI I2 8 2 (I2 42 2)) fun I3 =>
    ir_let (iq_cpI I3 43 9 0 0 700) fun I4 =>
    ir_let (iq_cpI I4 44 10 0 0 5) fun I5 =>
    ir_let (iq_cpI I5 45 11 0 0 5) fun I6 =>
    some I6) else none
def zU_copyFrom  (I : iq_I) : Option (iq_I) :=
  ir_let (iq_upI I 4 0 (I 38 0)) fun I1 =>
  ir_let (iq_upI I1 4 1 (I1 38 1)) fun I2 =>
  ir_let (iq_upI I2 4 2 (I2 38 2)) fun I3 =>
  ir_let (iq_upI I3 4 3 (I3 38 3)) fun I4 =>
  ir_let (iq_upI I4 4 4 (I4 38 4)) fun I5 =>
  ir_let (iq_upI I5 4 5 (I5 38 5)) fun I6 =>
  ir_let (iq_cpI I6 39 5 0 0 14) fun I7 =>
  ir_let (iq_cpI I7 40 6 0 0 14) fun I8 =>
  ir_let (iq_cpI I8 41 7 0 0 8) fun I9 =>
  ir_let (iq_cpI I9 47 13 0 0 126) fun I10 =>
  ir_let (iq_cpI I10 48 14 0 0 80) fun I11 =>
  ir_let (iq_cpI I11 49 15 0 0 8) fun I12 =>
  (zE_copyFrom I12).bind fun q13 =>
  some q13
def zA_copyFrom_19_53  (I : iq_I) : Option (iq_I) :=
  ir_let (iq_upI I 19 0 (I 53 0)) fun I1 =>
  ir_let (iq_cpI I1 54 20 0 0 40) fun I2 =>
  ir_let (iq_cpI I2 55 21 0 0 40) fun I3 =>
  ir_let (iq_cpI I3 56 22 0 0 40) fun I4 =>
  ir_let (iq_cpI I4 57 23 0 0 40) fun I5 =>
  some I5
def zG_copyFrom_16_50  (I : iq_I) : Option (iq_I) :=
  ir_let (iq_upI I 16 0 (I 50 0)) fun I1 =>
  ir_let (iq_upI I1 16 1 (I1 50 1)) fun I2 =>
  ir_let (iq_upI I2 16 2 (I2 50 2)) fun I3 =>
  ir_let (iq_cpI I3 51 17 0 0 5) fun I4 =>
  ir_let (iq_cpI I4 52 18 0 0 5) fun I5 =>
  ir_let (iq_cpI I5 58 24 0 0 200) fun I6 =>
  ir_let (iq_cpI I6 59 25 0 0 3) fun I7 =>
  ir_let (iq_cpI I7 60 26 0 0 3) fun I8 =>
  (zA_copyFrom_19_53 I8).bind fun q9 =>
  some q9
