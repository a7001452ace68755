/-! ===== the methods as pure functions (printed by wip/whole/emitall.py, split.py) ===== -/
def zW_findShared_101 (x2 : Int32) (x3 : Int32) (x4 : Int32) (x5 : Int32) (x6 : Int32) (x7 : Int32) (x8 : Int32) (s1 : Int32) (s2 : Int32) (I : iq_I) : Option ((Int32 × iq_I) ⊕ (iq_I)) :=
  if iq_in s1 41 then (
    ir_let (iq_upI I 73 (Int32.toNatClampNeg s1) s2) fun I8 =>
    if iq_in x8 41 then (
      if (I8 73 (Int32.toNatClampNeg x8)) ≤ (I8 72 4) then (
        some (.inl ((x8 + (-1 : Int32)), I8))) else (
        if iq_in x8 41 then (
          ir_let (iq_upI I8 72 4 (I8 73 (Int32.toNatClampNeg x8))) fun I9 =>
          if iq_in x8 41 then (
            ir_let (iq_upI I9 72 5 ((x6 + (1 : Int32)) - (I9 73 (Int32.toNatClampNeg x8)))) fun I10 =>
            some (.inl ((x8 + (-1 : Int32)), I10))) else none) else none)) else none) else none
def zW_findShared_l60_b (x2 : Int32) (x3 : Int32) (x4 : Int32) (x5 : Int32) (x6 : Int32) (x7 : Int32)  (x8 : Int32) (I : iq_I) : Option ((Int32 × iq_I) ⊕ (iq_I)) :=
  if x8 < (1 : Int32) then (
    some (.inr I)) else (
    (zG_wordAt_16 x3 (x8 - (1 : Int32)) I).bind fun q7 =>
    if ¬ x7 = q7 then (
      zW_findShared_101 x2 x3 x4 x5 x6 x7 x8 x8 (0 : Int32) I) else (
      if iq_in (x8 - (1 : Int32)) 41 then (
        zW_findShared_101 x2 x3 x4 x5 x6 x7 x8 x8 ((I 73 (Int32.toNatClampNeg (x8 - (1 : Int32)))) + (1 : Int32)) I) else none))
def zW_findShared_l60 (x2 : Int32) (x3 : Int32) (x4 : Int32) (x5 : Int32) (x6 : Int32) (x7 : Int32)  (n : Nat) (v : Int32 × iq_I) : Option (iq_I) := iq_lp (fun v => zW_findShared_l60_b x2 x3 x4 x5 x6 x7 v.1 v.2) n v
def zW_findShared_l40_b (x2 : Int32) (x3 : Int32) (x4 : Int32) (x5 : Int32)  (x6 : Int32) (I : iq_I) : Option ((Int32 × iq_I) ⊕ (iq_I)) :=
  if x4 ≤ x6 then (
    some (.inr I)) else (
    (zG_wordAt_16 x2 x6 I).bind fun q6 =>
    (zW_findShared_l60 x2 x3 x4 x5 x6 q6 ir_F (x5, I)).bind fun w11 =>
    some (.inl ((x6 + (1 : Int32)), w11)))
def zW_findShared_l40 (x2 : Int32) (x3 : Int32) (x4 : Int32) (x5 : Int32)  (n : Nat) (v : Int32 × iq_I) : Option (iq_I) := iq_lp (fun v => zW_findShared_l40_b x2 x3 x4 x5 v.1 v.2) n v
def zW_findShared (x2 : Int32) (x3 : Int32) (I : iq_I) : Option (iq_I) :=
  (zG_lengthOf_16 x2 I).bind fun q1 =>
  (zG_lengthOf_16 x3 I).bind fun q2 =>
  ir_let (iq_upI I 72 4 (0 : Int32)) fun I3 =>
  ir_let (iq_upI I3 72 5 (-1 : Int32)) fun I4 =>
  (zS_J7_fill_53178_73 (0 : Int32) I4).bind fun q5 =>
  (zW_findShared_l40 x2 x3 q1 (ir_min q2 (40 : Int32)) ir_F ((0 : Int32), q5)).bind fun w12 =>
  some w12
def zW_longestShared (x2 : Int32) (x3 : Int32) (I : iq_I) : Option (Int32 × iq_I) :=
  (zW_findShared x2 x3 I).bind fun q1 =>
  some ((q1 72 4), q1)
def zW_whereShared (x2 : Int32) (x3 : Int32) (I : iq_I) : Option (Int32 × iq_I) :=
  (zW_findShared x2 x3 I).bind fun q1 =>
  some ((q1 72 5), q1)
def zO_shared (x1 : Int32) (x2 : Int32) (x3 : Int32) (I : iq_I) (X : iq_X) : Option ((Int32 ⊕ Nat) × iq_I × iq_X) :=
  (zO_needSaying x1 I X).bind fun q1 =>
  iq_sm q1.1 (fun a2 =>
    (zO_needSaying x2 I q1.2).bind fun q4 =>
    iq_sm q4.1 (fun a5 =>
      (zO_needOneOfTwo x3 I q4.2).bind fun q7 =>
      iq_sm q7.1 (fun a8 =>
        if ¬ x3 = 0 then (
          (zW_whereShared x1 x2 I).bind fun q10 =>
          some (.inl q10.1, q10.2, q7.2)) else (
          (zW_longestShared x1 x2 I).bind fun q11 =>
          some (.inl q11.1, q11.2, q7.2))) (fun k9 => some (.inr k9, I, q7.2))) (fun k6 => some (.inr k6, I, q4.2))) (fun k3 => some (.inr k3, I, q1.2))
def zL_shared (x1 : Int32) (x2 : Int32) (x3 : Int32) (I : iq_I) (J : iq_J) (X : iq_X) : Option (Int32 × iq_I × iq_J × iq_X) :=
  (zO_shared x1 x2 x3 I X).bind fun q1 =>
  iq_sm q1.1 (fun a2 =>
    ir_let (iq_upJ J 114 0 (Int32.toInt64 a2)) fun J4 =>
    some ((0 : Int32), q1.2.1, J4, q1.2.2)) (fun k3 => if k3 = 0 then (
    some ((1 : Int32), q1.2.1, J, q1.2.2)) else (
  if k3 = 1 then (
    none) else none))
def zM_shared_l69_b (x1 : Int32) (x2 : Int32) (x3 : Int32) (x4 : Int32) (x5 : Int32) (x6 : Int32) (x7 : Int32) (I : iq_I) (x8 : Int32)  : Option ((Int32) ⊕ (Int32)) :=
  if iq_in x1 206 then (
    if (I 98 (Int32.toNatClampNeg x1)) ≤ (x6 + x8) then (
      some (.inr x8)) else (
      if iq_in x2 206 then (
        if (I 98 (Int32.toNatClampNeg x2)) ≤ (x7 + x8) then (
          some (.inr x8)) else (
          (zM_wordAt_76_98 x1 (x6 + x8) I).bind fun q5 =>
          (zM_wordAt_76_98 x2 (x7 + x8) I).bind fun q6 =>
          if ¬ q5 = q6 then (
            some (.inr x8)) else (
            some (.inl (x8 + (1 : Int32)))))) else none)) else none
def zM_shared_l69 (x1 : Int32) (x2 : Int32) (x3 : Int32) (x4 : Int32) (x5 : Int32) (x6 : Int32) (x7 : Int32) (I : iq_I) (n : Nat) (v : Int32) : Option (Int32) := iq_lp (fun v => zM_shared_l69_b x1 x2 x3 x4 x5 x6 x7 I v) n v
def zM_shared_134 (x1 : Int32) (x2 : Int32) (x3 : Int32) (x4 : Int32) (x5 : Int32) (x6 : Int32) (x7 : Int32) (x8 : Int32) (I : iq_I) : Option ((Int32 × Int32 × Int32) ⊕ (Int32 × Int32)) :=
  if x4 < x8 then (
    some (.inl (x8, x6, (x7 + (1 : Int32))))) else (
    some (.inl (x4, x5, (x7 + (1 : Int32)))))
def zM_shared_l55_b (x1 : Int32) (x2 : Int32) (x3 : Int32) (x6 : Int32) (I : iq_I) (x4 : Int32) (x5 : Int32) (x7 : Int32)  : Option ((Int32 × Int32 × Int32) ⊕ (Int32 × Int32)) :=
  if iq_in x2 206 then (
    if (I 98 (Int32.toNatClampNeg x2)) ≤ x7 then (
      some (.inr (x4, x5))) else (
      (zM_shared_l69 x1 x2 x3 x4 x5 x6 x7 I ir_F (0 : Int32)).bind fun w7 =>
      zM_shared_134 x1 x2 x3 x4 x5 x6 x7 w7 I)) else none
def zM_shared_l55 (x1 : Int32) (x2 : Int32) (x3 : Int32) (x6 : Int32) (I : iq_I) (n : Nat) (v : Int32 × Int32 × Int32) : Option (Int32 × Int32) := iq_lp (fun v => zM_shared_l55_b x1 x2 x3 x6 I v.1 v.2.1 v.2.2) n v
def zM_shared_l41_b (x1 : Int32) (x2 : Int32) (x3 : Int32) (I : iq_I) (x4 : Int32) (x5 : Int32) (x6 : Int32)  : Option ((Int32 × Int32 × Int32) ⊕ (Int32 × Int32)) :=
  if iq_in x1 206 then (
    if (I 98 (Int32.toNatClampNeg x1)) ≤ x6 then (
      some (.inr (x4, x5))) else (
      (zM_shared_l55 x1 x2 x3 x6 I ir_F (x4, x5, (0 : Int32))).bind fun w8 =>
      some (.inl (w8.1, w8.2, (x6 + (1 : Int32)))))) else none
def zM_shared_l41 (x1 : Int32) (x2 : Int32) (x3 : Int32) (I : iq_I) (n : Nat) (v : Int32 × Int32 × Int32) : Option (Int32 × Int32) := iq_lp (fun v => zM_shared_l41_b x1 x2 x3 I v.1 v.2.1 v.2.2) n v
def zM_shared (x1 : Int32) (x2 : Int32) (x3 : Int32) (I : iq_I) : Option (Int32 × iq_I) :=
  ir_let (iq_upI I 76 0 (0 : Int32)) fun I1 =>
  (zM_isSaying x1 I1).bind fun q2 =>
  if q2.1 = 0 then (
    some ((0 : Int32), q2.2)) else (
    (zM_isSaying x2 q2.2).bind fun q3 =>
    if q3.1 = 0 then (
      some ((0 : Int32), q3.2)) else (
      (zM_isWhat x3 (1 : Int32) q3.2).bind fun q4 =>
      if ¬ q4.1 = 0 then (
        (zM_shared_l41 x1 x2 x3 q4.2 ir_F ((0 : Int32), (-1 : Int32), (0 : Int32))).bind fun w9 =>
        if ¬ x3 = 0 then (
          some (w9.2, q4.2)) else (
          some (w9.1, q4.2))) else (
        some ((0 : Int32), q4.2))))
def zU_leadsTo_4 (x1 : Int32) (x2 : Int32) (I : iq_I) : Option (Int32) :=
  if x1 < 0 then (
    some (-1 : Int32)) else (
    if (I 4 0) ≤ x1 then (
      some (-1 : Int32)) else (
      if x2 < 0 then (
        some (-1 : Int32)) else (
        if x2 < (I 4 2) then (
          if iq_in x2 14 then (
            if iq_in ((x1 * (8 : Int32)) + (I 6 (Int32.toNatClampNeg x2))) 80 then (
              some (I 14 (Int32.toNatClampNeg ((x1 * (8 : Int32)) + (I 6 (Int32.toNatClampNeg x2)))))) else none) else none) else (
          some (-1 : Int32)))))
def zW_fewestFrom (x1 : Int32) (x2 : Int32) (I : iq_I) : Option (Int32) :=
  if x1 < 0 then (
    some (1000 : Int32)) else (
    if (40 : Int32) < x1 then (
      some (1000 : Int32)) else (
      if x2 < 0 then (
        some (1000 : Int32)) else (
        if x2 < (I 4 0) then (
          if iq_in ((x1 * (10 : Int32)) + x2) 410 then (
            some (I 75 (Int32.toNatClampNeg ((x1 * (10 : Int32)) + x2)))) else none) else (
          some (1000 : Int32)))))
def zW_fewestBy_16 (x3 : Int32) (x4 : Int32) (x5 : Int32) (s0 : Int32) (I : iq_I) : Option (Int32) :=
  (zU_leadsTo_4 x4 x5 I).bind fun q2 =>
  (zW_fewestFrom (x3 + (1 : Int32)) q2 I).bind fun q3 =>
  some (s0 + q3)
def zW_fewestBy (x2 : Int32) (x3 : Int32) (x4 : Int32) (x5 : Int32) (I : iq_I) : Option (Int32) :=
  (zG_wordAt_16 x2 x3 I).bind fun q1 =>
  if ¬ q1 = x5 then (
    zW_fewestBy_16 x3 x4 x5 (1 : Int32) I) else (
    zW_fewestBy_16 x3 x4 x5 (0 : Int32) I)
def zW_fewestAt_l8_b (x2 : Int32) (x3 : Int32) (x4 : Int32) (I : iq_I) (x5 : Int32) (x6 : Int32)  : Option ((Int32 × Int32) ⊕ (Int32)) :=
  if (I 4 2) ≤ x6 then (
    some (.inr x5)) else (
    (zW_fewestBy x2 x3 x4 x6 I).bind fun q1 =>
    some (.inl ((ir_min x5 q1), (x6 + (1 : Int32)))))
def zW_fewestAt_l8 (x2 : Int32) (x3 : Int32) (x4 : Int32) (I : iq_I) (n : Nat) (v : Int32 × Int32) : Option (Int32) := iq_lp (fun v => zW_fewestAt_l8_b x2 x3 x4 I v.1 v.2) n v
def zW_fewestAt (x2 : Int32) (x3 : Int32) (x4 : Int32) (I : iq_I) : Option (Int32) :=
  (zW_fewestAt_l8 x2 x3 x4 I ir_F ((1000 : Int32), (0 : Int32))).bind fun w2 =>
  some w2
def zG_beginOf_16 (x1 : Int32) (I : iq_I) : Option (Int32) :=
  if x1 < 0 then (
    some (-1 : Int32)) else (
    if x1 < (I 16 0) then (
      if iq_in x1 5 then (
        some (I 17 (Int32.toNatClampNeg x1))) else none) else (
      some (-1 : Int32)))
def zW_fewestToMend_66 (x2 : Int32) (x3 : Int32) (x4 : Int32) (x5 : Int32) (s1 : Int32) (s2 : Int32) (I : iq_I) : Option ((Int32 × iq_I) ⊕ (iq_I)) :=
  if iq_in s1 410 then (
    ir_let (iq_upI I 75 (Int32.toNatClampNeg s1) s2) fun I3 =>
    some (.inl ((x5 + (1 : Int32)), I3))) else none
def zW_fewestToMend_l22_b (x2 : Int32) (x3 : Int32) (x4 : Int32)  (x5 : Int32) (I : iq_I) : Option ((Int32 × iq_I) ⊕ (iq_I)) :=
  if (I 4 0) ≤ x5 then (
    some (.inr I)) else (
    if ¬ x4 = x3 then (
      (zW_fewestAt x2 x4 x5 I).bind fun q2 =>
      zW_fewestToMend_66 x2 x3 x4 x5 ((x4 * (10 : Int32)) + x5) q2 I) else (
      zW_fewestToMend_66 x2 x3 x4 x5 ((x4 * (10 : Int32)) + x5) (0 : Int32) I))
def zW_fewestToMend_l22 (x2 : Int32) (x3 : Int32) (x4 : Int32)  (n : Nat) (v : Int32 × iq_I) : Option (iq_I) := iq_lp (fun v => zW_fewestToMend_l22_b x2 x3 x4 v.1 v.2) n v
def zW_fewestToMend_l14_b (x2 : Int32) (x3 : Int32)  (x4 : Int32) (I : iq_I) : Option ((Int32 × iq_I) ⊕ (iq_I)) :=
  if x4 < 0 then (
    some (.inr I)) else (
    (zW_fewestToMend_l22 x2 x3 x4 ir_F ((0 : Int32), I)).bind fun w4 =>
    some (.inl ((x4 + (-1 : Int32)), w4)))
def zW_fewestToMend_l14 (x2 : Int32) (x3 : Int32)  (n : Nat) (v : Int32 × iq_I) : Option (iq_I) := iq_lp (fun v => zW_fewestToMend_l14_b x2 x3 v.1 v.2) n v
def zW_fewestToMend (x2 : Int32) (I : iq_I) : Option (Int32 × iq_I) :=
  (zG_lengthOf_16 x2 I).bind fun q1 =>
  (zW_fewestToMend_l14 x2 (ir_min q1 (40 : Int32)) ir_F ((ir_min q1 (40 : Int32)), I)).bind fun w5 =>
  (zG_beginOf_16 x2 w5).bind fun q6 =>
  (zW_fewestFrom (0 : Int32) q6 w5).bind fun q7 =>
  if q7 < (1000 : Int32) then (
    some (q7, w5)) else (
    some ((-1 : Int32), w5))
def zO_needPlace_17  (I : iq_I) (X : iq_X) : Option ((Unit ⊕ Nat) × iq_X) :=
  some (.inr 0, (ir_xx X))
def zO_needPlace (x1 : Int32) (x2 : Int32) (I : iq_I) (X : iq_X) : Option ((Unit ⊕ Nat) × iq_X) :=
  if x2 < 0 then (
    zO_needPlace_17 I X) else (
    if iq_in x1 5 then (
      if x2 < (I 18 (Int32.toNatClampNeg x1)) then (
        some (.inl (), X)) else (
        zO_needPlace_17 I X)) else none)
def zW_firstMending_l12_b (x2 : Int32) (x3 : Int32) (x4 : Int32) (x5 : Int32) (I : iq_I) (x6 : Int32)  : Option ((Int32) ⊕ ((Unit) ⊕ (Int32))) :=
  if (I 4 2) ≤ x6 then (
    some (.inr (.inl ()))) else (
    (zW_fewestBy x2 x3 x4 x6 I).bind fun q2 =>
    if ¬ q2 = x5 then (
      some (.inl (x6 + (1 : Int32)))) else (
      some (.inr (.inr x6))))
def zW_firstMending_l12 (x2 : Int32) (x3 : Int32) (x4 : Int32) (x5 : Int32) (I : iq_I) (n : Nat) (v : Int32) : Option ((Unit) ⊕ (Int32)) := iq_lp (fun v => zW_firstMending_l12_b x2 x3 x4 x5 I v) n v
def zW_firstMending (x2 : Int32) (x3 : Int32) (x4 : Int32) (I : iq_I) : Option (Int32) :=
  (zW_fewestFrom x3 x4 I).bind fun q1 =>
  (zW_firstMending_l12 x2 x3 x4 q1 I ir_F (0 : Int32)).bind fun w3 =>
  ir_sm w3 (fun a4 =>
    some (-1 : Int32)) (fun b5 => some b5)
def zW_mendedWord_l10_b (x2 : Int32) (x3 : Int32) (I : iq_I) (x4 : Int32) (x5 : Int32)  : Option ((Int32 × Int32) ⊕ (Int32)) :=
  if x3 ≤ x5 then (
    some (.inr x4)) else (
    if (40 : Int32) ≤ x5 then (
      some (.inr x4)) else (
      (zW_firstMending x2 x5 x4 I).bind fun q2 =>
      (zU_leadsTo_4 x4 q2 I).bind fun q3 =>
      some (.inl (q3, (x5 + (1 : Int32))))))
def zW_mendedWord_l10 (x2 : Int32) (x3 : Int32) (I : iq_I) (n : Nat) (v : Int32 × Int32) : Option (Int32) := iq_lp (fun v => zW_mendedWord_l10_b x2 x3 I v.1 v.2) n v
def zW_mendedWord_50 (x2 : Int32) (x3 : Int32) (x4 : Int32) (I : iq_I) : Option (Int32) :=
  (zW_firstMending x2 x3 x4 I).bind fun q5 =>
  some q5
def zW_mendedWord (x2 : Int32) (x3 : Int32) (I : iq_I) : Option (Int32) :=
  (zG_beginOf_16 x2 I).bind fun q1 =>
  (zW_mendedWord_l10 x2 x3 I ir_F (q1, (0 : Int32))).bind fun w4 =>
  zW_mendedWord_50 x2 x3 w4 I
def zO_mend (x1 : Int32) (x2 : Int32) (I : iq_I) (X : iq_X) : Option ((Int32 ⊕ Nat) × iq_I × iq_X) :=
  (zO_needSaying x1 I X).bind fun q1 =>
  iq_sm q1.1 (fun a2 =>
    (zW_fewestToMend x1 I).bind fun q4 =>
    if ¬ x2 = (-1 : Int32) then (
      (zO_needPlace x1 x2 q4.2 q1.2).bind fun q5 =>
      iq_sm q5.1 (fun a6 =>
        if ¬ q4.1 = (-1 : Int32) then (
          (zW_mendedWord x1 x2 q4.2).bind fun q8 =>
          some (.inl q8, q4.2, q5.2)) else (
          some (.inr 0, q4.2, (ir_xx q5.2)))) (fun k7 => some (.inr k7, q4.2, q5.2))) else (
      some (.inl q4.1, q4.2, q1.2))) (fun k3 => some (.inr k3, I, q1.2))
def zL_mend (x1 : Int32) (x2 : Int32) (I : iq_I) (J : iq_J) (X : iq_X) : Option (Int32 × iq_I × iq_J × iq_X) :=
  (zO_mend x1 x2 I X).bind fun q1 =>
  iq_sm q1.1 (fun a2 =>
    ir_let (iq_upJ J 114 0 (Int32.toInt64 a2)) fun J4 =>
    some ((0 : Int32), q1.2.1, J4, q1.2.2)) (fun k3 => if k3 = 0 then (
    some ((1 : Int32), q1.2.1, J, q1.2.2)) else (
  if k3 = 1 then (
    none) else none))
def zM_leads (x1 : Int32) (x2 : Int32) (I : iq_I) : Option (Int32) :=
  if iq_in x2 14 then (
    if iq_in (((8 : Int32) * x1) + (I 79 (Int32.toNatClampNeg x2))) 80 then (
      some (I 80 (Int32.toNatClampNeg (((8 : Int32) * x1) + (I 79 (Int32.toNatClampNeg x2)))))) else none) else none
