/-! ===== the methods as pure functions (printed by wip/whole/emitall.py, split.py) ===== -/
def zM_nearest_56 (x3 : Int32) (x4 : Int32) (x5 : Int32) (I : iq_I) : Option ((Int32 × Int32 × Int32 × iq_I) ⊕ (Int32 × Int32 × iq_I)) :=
  some (.inl ((((10 : Int32) * x3) + x4), x5, (x4 + (1 : Int32)), I))
def zM_nearest_l24_b (x3 : Int32)  (x1 : Int32) (x2 : Int32) (x4 : Int32) (I : iq_I) : Option ((Int32 × Int32 × Int32 × iq_I) ⊕ (Int32 × Int32 × iq_I)) :=
  if (I 76 5) ≤ x4 then (
    some (.inr (x1, x2, I))) else (
    (zM_alikeOf x3 x4 I).bind fun q2 =>
    if x1 = (-1 : Int32) then (
      zM_nearest_56 x3 x4 q2.1 q2.2) else (
      if q2.1 < x2 then (
        zM_nearest_56 x3 x4 q2.1 q2.2) else (
        some (.inl (x1, x2, (x4 + (1 : Int32)), q2.2)))))
def zM_nearest_l24 (x3 : Int32)  (n : Nat) (v : Int32 × Int32 × Int32 × iq_I) : Option (Int32 × Int32 × iq_I) := iq_lp (fun v => zM_nearest_l24_b x3 v.1 v.2.1 v.2.2.1 v.2.2.2) n v
def zM_nearest_l11_b   (x1 : Int32) (x2 : Int32) (x3 : Int32) (I : iq_I) : Option ((Int32 × Int32 × Int32 × iq_I) ⊕ (Int32 × iq_I)) :=
  if (I 76 5) ≤ x3 then (
    some (.inr (x1, I))) else (
    (zM_nearest_l24 x3 ir_F (x1, x2, (x3 + (1 : Int32)), I)).bind fun w3 =>
    some (.inl (w3.1, w3.2.1, (x3 + (1 : Int32)), w3.2.2)))
def zM_nearest_l11   (n : Nat) (v : Int32 × Int32 × Int32 × iq_I) : Option (Int32 × iq_I) := iq_lp (fun v => zM_nearest_l11_b  v.1 v.2.1 v.2.2.1 v.2.2.2) n v
def zM_nearest  (I : iq_I) : Option (Int32 × iq_I) :=
  ir_let (iq_upI I 76 0 (0 : Int32)) fun I1 =>
  (zM_nearest_l11  ir_F ((-1 : Int32), (0 : Int32), (0 : Int32), I1)).bind fun w4 =>
  some (w4.1, w4.2)
def zO_alike (x1 : Int32) (x2 : Int32) (I : iq_I) (X : iq_X) : Option ((Int32 ⊕ Nat) × iq_I × iq_X) :=
  (zO_needSaying x1 I X).bind fun q1 =>
  iq_sm q1.1 (fun a2 =>
    (zO_needSaying x2 I q1.2).bind fun q4 =>
    iq_sm q4.1 (fun a5 =>
      (zW_fewestChanges x1 x2 I).bind fun q7 =>
      some (.inl q7.1, q7.2, q4.2)) (fun k6 => some (.inr k6, I, q4.2))) (fun k3 => some (.inr k3, I, q1.2))
def zL_alike (x1 : Int32) (x2 : Int32) (I : iq_I) (J : iq_J) (X : iq_X) : Option (Int32 × iq_I × iq_J × iq_X) :=
  (zO_alike x1 x2 I X).bind fun q1 =>
  iq_sm q1.1 (fun a2 =>
    ir_let (iq_upJ J 114 0 (Int32.toInt64 a2)) fun J4 =>
    some ((0 : Int32), q1.2.1, J4, q1.2.2)) (fun k3 => if k3 = 0 then (
    some ((1 : Int32), q1.2.1, J, q1.2.2)) else (
  if k3 = 1 then (
    none) else none))
def zM_alike (x1 : Int32) (x2 : Int32) (I : iq_I) : Option (Int32 × iq_I) :=
  ir_let (iq_upI I 76 0 (0 : Int32)) fun I1 =>
  (zM_isSaying x1 I1).bind fun q2 =>
  if q2.1 = 0 then (
    some ((0 : Int32), q2.2)) else (
    (zM_isSaying x2 q2.2).bind fun q3 =>
    if q3.1 = 0 then (
      some ((0 : Int32), q3.2)) else (
      (zM_alikeOf x1 x2 q3.2).bind fun q4 =>
      some (q4.1, q4.2)))
def zW_whereBegun_l5_b (x2 : Int32) (I : iq_I) (x3 : Int32) (x4 : Int32)  : Option ((Int32 × Int32) ⊕ (Int32)) :=
  if (I 4 0) ≤ x4 then (
    some (.inr x3)) else (
    (zU_stateFrom_4_16 x2 x4 (-1 : Int32) I).bind fun q1 =>
    if q1 = (-1 : Int32) then (
      some (.inl (x3, (x4 + (1 : Int32))))) else (
      some (.inl ((x3 ||| ((1 : Int32) <<< (x4 &&& 31))), (x4 + (1 : Int32))))))
def zW_whereBegun_l5 (x2 : Int32) (I : iq_I) (n : Nat) (v : Int32 × Int32) : Option (Int32) := iq_lp (fun v => zW_whereBegun_l5_b x2 I v.1 v.2) n v
def zW_whereBegun (x2 : Int32) (I : iq_I) : Option (Int32) :=
  (zW_whereBegun_l5 x2 I ir_F ((0 : Int32), (0 : Int32))).bind fun w2 =>
  some w2
def zO_begun (x1 : Int32) (I : iq_I) (X : iq_X) : Option ((Int32 ⊕ Nat) × iq_X) :=
  (zO_needSaying x1 I X).bind fun q1 =>
  iq_sm q1.1 (fun a2 =>
    (zW_whereBegun x1 I).bind fun q4 =>
    some (.inl q4, q1.2)) (fun k3 => some (.inr k3, q1.2))
def zL_begun (x1 : Int32) (I : iq_I) (J : iq_J) (X : iq_X) : Option (Int32 × iq_J × iq_X) :=
  (zO_begun x1 I X).bind fun q1 =>
  iq_sm q1.1 (fun a2 =>
    ir_let (iq_upJ J 114 0 (Int32.toInt64 a2)) fun J4 =>
    some ((0 : Int32), J4, q1.2)) (fun k3 => if k3 = 0 then (
    some ((1 : Int32), J, q1.2)) else (
  if k3 = 1 then (
    none) else none))
def zM_begun_l19_b (x1 : Int32) (I : iq_I) (x2 : Int32) (x3 : Int32)  : Option ((Int32 × Int32) ⊕ (Int32)) :=
  if (I 76 1) ≤ x3 then (
    some (.inr x2)) else (
    (zM_stateOf_76_98 x1 x3 (-1 : Int32) I).bind fun q3 =>
    if q3 = (-1 : Int32) then (
      some (.inl ((x2 ||| (0 : Int32)), (x3 + (1 : Int32))))) else (
      some (.inl ((x2 ||| ((1 : Int32) <<< (x3 &&& 31))), (x3 + (1 : Int32))))))
def zM_begun_l19 (x1 : Int32) (I : iq_I) (n : Nat) (v : Int32 × Int32) : Option (Int32) := iq_lp (fun v => zM_begun_l19_b x1 I v.1 v.2) n v
def zM_begun (x1 : Int32) (I : iq_I) : Option (Int32 × iq_I) :=
  ir_let (iq_upI I 76 0 (0 : Int32)) fun I1 =>
  (zM_isSaying x1 I1).bind fun q2 =>
  if ¬ q2.1 = 0 then (
    (zM_begun_l19 x1 q2.2 ir_F ((0 : Int32), (0 : Int32))).bind fun w4 =>
    some (w4, q2.2)) else (
    some ((0 : Int32), q2.2))
def zH_whatMayCome_69_16_l16_b (x2 : Int32) (x3 : Int32)  (x4 : Int32) (x5 : Int32) (I : iq_I) : Option ((Int32 × Int32 × iq_I) ⊕ (Int32 × iq_I)) :=
  if (I 4 2) ≤ x5 then (
    some (.inr (x4, I))) else (
    (zH_isFree_69_16 x2 x3 x5 I).bind fun q2 =>
    if q2 = 0 then (
      some (.inl (x4, (x5 + (1 : Int32)), I))) else (
      (zH_isLawful_69_16 x2 x5 (I 16 1) I).bind fun q3 =>
      if q3.1 = 0 then (
        some (.inl (x4, (x5 + (1 : Int32)), q3.2))) else (
        some (.inl ((x4 ||| ((1 : Int32) <<< (x5 &&& 31))), (x5 + (1 : Int32)), q3.2)))))
def zH_whatMayCome_69_16_l16 (x2 : Int32) (x3 : Int32)  (n : Nat) (v : Int32 × Int32 × iq_I) : Option (Int32 × iq_I) := iq_lp (fun v => zH_whatMayCome_69_16_l16_b x2 x3 v.1 v.2.1 v.2.2) n v
def zH_whatMayCome_69_16 (x2 : Int32) (I : iq_I) : Option (Int32 × iq_I) :=
  (zU_stateOf_4_16 x2 I).bind fun q1 =>
  (zH_whatMayCome_69_16_l16 x2 q1 ir_F ((0 : Int32), (0 : Int32), I)).bind fun w4 =>
  some (w4.1, w4.2)
def zH_weigh_69_16_63 (x2 : Int32) (x3 : Int32) (x4 : Int32) (x5 : Int32) (x6 : Int32) (x7 : Int32) (I : iq_I) : Option ((Int32 × Int32 × iq_I) ⊕ (Int32 × iq_I)) :=
  if iq_in x6 14 then (
    ir_let (iq_upI I 71 (Int32.toNatClampNeg x6) (ir_max (0 : Int32) (ir_min (99 : Int32) x7))) fun I2 =>
    if iq_in x6 14 then (
      some (.inl ((x5 + (I2 71 (Int32.toNatClampNeg x6))), (x6 + (1 : Int32)), I2))) else none) else none
def zH_weigh_69_16_l14_b (x2 : Int32) (x3 : Int32) (x4 : Int32)  (x5 : Int32) (x6 : Int32) (I : iq_I) : Option ((Int32 × Int32 × iq_I) ⊕ (Int32 × iq_I)) :=
  if (14 : Int32) ≤ x6 then (
    some (.inr (x5, I))) else (
    if ((x4 >>> (x6 &&& 31)) &&& (1 : Int32)) = 0 then (
      zH_weigh_69_16_63 x2 x3 x4 x5 x6 (0 : Int32) I) else (
      (zH_fillValues_69_16 x3 x6 (I 16 1) I).bind fun q3 =>
      (zE_give x2 q3).bind fun q4 =>
      zH_weigh_69_16_63 x2 x3 x4 x5 x6 q4.1 q4.2))
def zH_weigh_69_16_l14 (x2 : Int32) (x3 : Int32) (x4 : Int32)  (n : Nat) (v : Int32 × Int32 × iq_I) : Option (Int32 × iq_I) := iq_lp (fun v => zH_weigh_69_16_l14_b x2 x3 x4 v.1 v.2.1 v.2.2) n v
def zH_weigh_69_16 (x2 : Int32) (x3 : Int32) (I : iq_I) : Option (Int32 × iq_I) :=
  (zH_whatMayCome_69_16 x3 I).bind fun q1 =>
  (zH_weigh_69_16_l14 x2 x3 q1.1 ir_F ((0 : Int32), (0 : Int32), q1.2)).bind fun w5 =>
  some (w5.1, w5.2)
def zH_weightOf (x1 : Int32) (I : iq_I) : Option (Int32) :=
  if x1 < 0 then (
    some (0 : Int32)) else (
    if x1 < (14 : Int32) then (
      if iq_in x1 14 then (
        some (I 71 (Int32.toNatClampNeg x1))) else none) else (
      some (0 : Int32)))
def zH_multiplyOdds_l12_b (x2 : Int32)  (x3 : Int32) (I : iq_I) (J : iq_J) : Option ((Int32 × iq_I × iq_J) ⊕ (iq_I × iq_J)) :=
  if (I 16 2) ≤ x3 then (
    some (.inr (I, J))) else (
    if (3 : Int32) ≤ x3 then (
      some (.inr (I, J))) else (
      if iq_in x3 3 then (
        (zH_weigh_69_16 x2 (I 25 (Int32.toNatClampNeg x3)) I).bind fun q3 =>
        if iq_in x3 3 then (
          (zH_weightOf (q3.2 26 (Int32.toNatClampNeg x3)) q3.2).bind fun q4 =>
          ir_let (iq_upJ J 69 3 ((J 69 3) * (Int32.toInt64 q4))) fun J5 =>
          ir_let (iq_upJ J5 69 4 ((J5 69 4) * (Int32.toInt64 q3.1))) fun J6 =>
          some (.inl ((x3 + (1 : Int32)), q3.2, J6))) else none) else none))
def zH_multiplyOdds_l12 (x2 : Int32)  (n : Nat) (v : Int32 × iq_I × iq_J) : Option (iq_I × iq_J) := iq_lp (fun v => zH_multiplyOdds_l12_b x2 v.1 v.2.1 v.2.2) n v
def zH_multiplyOdds_77  (I : iq_I) (J : iq_J) : Option (Int32 × iq_I × iq_J) :=
  if (lg_cmp (J 69 3) (0 : Int64)) ≤ 0 then (
    some ((0 : Int32), I, J)) else (
    some ((1 : Int32), I, J))
def zH_multiplyOdds (x2 : Int32) (I : iq_I) (J : iq_J) : Option (Int32 × iq_I × iq_J) :=
  ir_let (iq_upJ J 69 3 (1 : Int64)) fun J1 =>
  ir_let (iq_upJ J1 69 4 (1 : Int64)) fun J2 =>
  (zH_multiplyOdds_l12 x2 ir_F ((0 : Int32), I, J2)).bind fun w7 =>
  zH_multiplyOdds_77 w7.1 w7.2
def zH_whoCan_l4_b   (x2 : Int32) (x3 : Int32) (I : iq_I) (J : iq_J) : Option ((Int32 × Int32 × iq_I × iq_J) ⊕ (Int32 × iq_I × iq_J)) :=
  if (I 8 0) ≤ x3 then (
    some (.inr (x2, I, J))) else (
    (zH_multiplyOdds x3 I J).bind fun q1 =>
    if q1.1 = 0 then (
      some (.inl (x2, (x3 + (1 : Int32)), q1.2.1, q1.2.2))) else (
      some (.inl ((x2 ||| ((1 : Int32) <<< (x3 &&& 31))), (x3 + (1 : Int32)), q1.2.1, q1.2.2))))
def zH_whoCan_l4   (n : Nat) (v : Int32 × Int32 × iq_I × iq_J) : Option (Int32 × iq_I × iq_J) := iq_lp (fun v => zH_whoCan_l4_b  v.1 v.2.1 v.2.2.1 v.2.2.2) n v
def zH_whoCan  (I : iq_I) (J : iq_J) : Option (Int32 × iq_I × iq_J) :=
  (zH_whoCan_l4  ir_F ((0 : Int32), (0 : Int32), I, J)).bind fun w2 =>
  some (w2.1, w2.2.1, w2.2.2)
def zH_likeliest_l10_b   (x2 : Int32) (y3 : Int64) (y5 : Int64) (x7 : Int32) (I : iq_I) (J : iq_J) : Option ((Int32 × Int64 × Int64 × Int32 × iq_I × iq_J) ⊕ (Int32 × iq_I × iq_J)) :=
  if (I 8 0) ≤ x7 then (
    some (.inr (x2, I, J))) else (
    (zH_multiplyOdds x7 I J).bind fun q1 =>
    if q1.1 = 0 then (
      some (.inl (x2, y3, y5, (x7 + (1 : Int32)), q1.2.1, q1.2.2))) else (
      if (lg_cmp ((q1.2.2 69 3) * y5) (y3 * (q1.2.2 69 4))) ≤ 0 then (
        some (.inl (x2, y3, y5, (x7 + (1 : Int32)), q1.2.1, q1.2.2))) else (
        some (.inl (x7, (q1.2.2 69 3), (q1.2.2 69 4), (x7 + (1 : Int32)), q1.2.1, q1.2.2)))))
def zH_likeliest_l10   (n : Nat) (v : Int32 × Int64 × Int64 × Int32 × iq_I × iq_J) : Option (Int32 × iq_I × iq_J) := iq_lp (fun v => zH_likeliest_l10_b  v.1 v.2.1 v.2.2.1 v.2.2.2.1 v.2.2.2.2.1 v.2.2.2.2.2) n v
def zH_likeliest  (I : iq_I) (J : iq_J) : Option (Int32 × iq_I × iq_J) :=
  (zH_likeliest_l10  ir_F ((-1 : Int32), (0 : Int64), (1 : Int64), (0 : Int32), I, J)).bind fun w2 =>
  some (w2.1, w2.2.1, w2.2.2)
def zO_who (x1 : Int32) (I : iq_I) (J : iq_J) (X : iq_X) : Option ((Int32 ⊕ Nat) × iq_I × iq_J × iq_X) :=
  (zO_needOneOfTwo x1 I X).bind fun q1 =>
  iq_sm q1.1 (fun a2 =>
    if ¬ x1 = 0 then (
      (zH_likeliest I J).bind fun q4 =>
      some (.inl q4.1, q4.2.1, q4.2.2, q1.2)) else (
      (zH_whoCan I J).bind fun q5 =>
      some (.inl q5.1, q5.2.1, q5.2.2, q1.2))) (fun k3 => some (.inr k3, I, J, q1.2))
def zL_who (x1 : Int32) (I : iq_I) (J : iq_J) (X : iq_X) : Option (Int32 × iq_I × iq_J × iq_X) :=
  (zO_who x1 I J X).bind fun q1 =>
  iq_sm q1.1 (fun a2 =>
    ir_let (iq_upJ q1.2.2.1 114 0 (Int32.toInt64 a2)) fun J4 =>
    some ((0 : Int32), q1.2.1, J4, q1.2.2.2)) (fun k3 => if k3 = 0 then (
    some ((1 : Int32), q1.2.1, q1.2.2.1, q1.2.2.2)) else (
  if k3 = 1 then (
    none) else none))
def zM_weight_76_98 (x2 : Int32) (x3 : Int32) (x4 : Int32) (x5 : Int32) (I : iq_I) : Option (Int32 × iq_I) :=
  (zM_mayCome_76_98 x3 x4 x5 I).bind fun q1 =>
  if ¬ q1.1 = 0 then (
    if iq_in x2 4 then (
      (zM_rule_76_98 (q1.2 82 (Int32.toNatClampNeg x2)) x3 x5 q1.2).bind fun q2 =>
      if 0 ≤ q2.1 then (
        if q2.1 ≤ (99 : Int32) then (
          some (q2.1, q2.2)) else (
          some ((99 : Int32), q2.2))) else (
        some ((0 : Int32), q2.2))) else none) else (
    some ((0 : Int32), q1.2))
def zM_weights_76_98_l14_b (x2 : Int32) (x3 : Int32) (x4 : Int32)  (x5 : Int32) (x6 : Int32) (I : iq_I) : Option ((Int32 × Int32 × iq_I) ⊕ (Int32 × iq_I)) :=
  if (I 76 2) ≤ x6 then (
    some (.inr (x5, I))) else (
    (zM_weight_76_98 x2 x3 x4 x6 I).bind fun q2 =>
    some (.inl ((x5 + q2.1), (x6 + (1 : Int32)), q2.2)))
def zM_weights_76_98_l14 (x2 : Int32) (x3 : Int32) (x4 : Int32)  (n : Nat) (v : Int32 × Int32 × iq_I) : Option (Int32 × iq_I) := iq_lp (fun v => zM_weights_76_98_l14_b x2 x3 x4 v.1 v.2.1 v.2.2) n v
def zM_weights_76_98 (x2 : Int32) (x3 : Int32) (I : iq_I) : Option (Int32 × iq_I) :=
  (zM_stateNow_76_98 x3 I).bind fun q1 =>
  (zM_weights_76_98_l14 x2 x3 q1 ir_F ((0 : Int32), (0 : Int32), I)).bind fun w3 =>
  some (w3.1, w3.2)
def zM_portion_l11_b (x0 : Int32) (x1 : Int32) (x2 : Int32) (I : iq_I) (x3 : Int32) (x4 : Int32)  : Option ((Int32 × Int32) ⊕ (Int32)) :=
  if x4 = 0 then (
    some (.inr x3)) else (
    if x4 = 0 then none else (
      some (.inl (x4, (x3 - x3 / x4 * x4)))))
def zM_portion_l11 (x0 : Int32) (x1 : Int32) (x2 : Int32) (I : iq_I) (n : Nat) (v : Int32 × Int32) : Option (Int32) := iq_lp (fun v => zM_portion_l11_b x0 x1 x2 I v.1 v.2) n v
def zM_portion_41 (x3 : Int32) (s0 : Int32) (I : iq_I) : Option (Int32) :=
  if x3 = 0 then none else (
    some (s0 / x3))
def zM_portion (x0 : Int32) (x1 : Int32) (x2 : Int32) (I : iq_I) : Option (Int32) :=
  if ¬ x0 = 0 then (
    (zM_portion_l11 x0 x1 x2 I ir_F (x1, x0)).bind fun w1 =>
    if ¬ x2 = 0 then (
      zM_portion_41 w1 x1 I) else (
      zM_portion_41 w1 x0 I)) else (
    some x2)
def zM_oddsOf (x1 : Int32) (x2 : Int32) (x3 : Int32) (x4 : Int32) (I : iq_I) : Option (Int32 × iq_I) :=
  (zM_stateNow_76_98 x2 I).bind fun q1 =>
  (zM_weight_76_98 x1 x2 q1 x3 I).bind fun q2 =>
  (zM_weights_76_98 x1 x2 q2.2).bind fun q3 =>
  (zM_portion q2.1 q3.1 x4 q3.2).bind fun q4 =>
  some (q4, q3.2)
def zM_allOdds_l5_b (x1 : Int32) (x2 : Int32)  (y3 : Int64) (x5 : Int32) (I : iq_I) : Option ((Int64 × Int32 × iq_I) ⊕ (Int64 × iq_I)) :=
  if (I 76 63) ≤ x5 then (
    some (.inr (y3, I))) else (
    if iq_in ((2 : Int32) * x5) 6 then (
      if iq_in (((2 : Int32) * x5) + (1 : Int32)) 6 then (
        (zM_oddsOf x1 (I 108 (Int32.toNatClampNeg ((2 : Int32) * x5))) (I 108 (Int32.toNatClampNeg (((2 : Int32) * x5) + (1 : Int32)))) x2 I).bind fun q1 =>
        some (.inl ((y3 * (Int32.toInt64 q1.1)), (x5 + (1 : Int32)), q1.2))) else none) else none)
def zM_allOdds_l5 (x1 : Int32) (x2 : Int32)  (n : Nat) (v : Int64 × Int32 × iq_I) : Option (Int64 × iq_I) := iq_lp (fun v => zM_allOdds_l5_b x1 x2 v.1 v.2.1 v.2.2) n v
def zM_allOdds (x1 : Int32) (x2 : Int32) (I : iq_I) : Option (Int64 × iq_I) :=
  (zM_allOdds_l5 x1 x2 ir_F ((1 : Int64), (0 : Int32), I)).bind fun w2 =>
  some (w2.1, w2.2)
def zM_who_l23_b (x1 : Int32)  (x2 : Int32) (x3 : Int32) (x4 : Int32) (I : iq_I) : Option ((Int32 × Int32 × Int32 × iq_I) ⊕ (Int32 × Int32 × iq_I)) :=
  if (I 76 4) ≤ x4 then (
    some (.inr (x2, x3, I))) else (
    (zM_allOdds x4 (0 : Int32) I).bind fun q3 =>
    if ¬ (lg_cmp q3.1 (0 : Int64)) = 0 then (
      if x3 = (-1 : Int32) then (
        some (.inl ((x2 ||| ((1 : Int32) <<< (x4 &&& 31))), x4, (x4 + (1 : Int32)), q3.2))) else (
        (zM_allOdds x4 (0 : Int32) q3.2).bind fun q4 =>
        (zM_allOdds x3 (1 : Int32) q4.2).bind fun q5 =>
        (zM_allOdds x3 (0 : Int32) q5.2).bind fun q6 =>
        (zM_allOdds x4 (1 : Int32) q6.2).bind fun q7 =>
        if (lg_cmp (q4.1 * q5.1) (q6.1 * q7.1)) ≤ 0 then (
          some (.inl ((x2 ||| ((1 : Int32) <<< (x4 &&& 31))), x3, (x4 + (1 : Int32)), q7.2))) else (
          some (.inl ((x2 ||| ((1 : Int32) <<< (x4 &&& 31))), x4, (x4 + (1 : Int32)), q7.2))))) else (
      some (.inl (x2, x3, (x4 + (1 : Int32)), q3.2))))
def zM_who_l23 (x1 : Int32)  (n : Nat) (v : Int32 × Int32 × Int32 × iq_I) : Option (Int32 × Int32 × iq_I) := iq_lp (fun v => zM_who_l23_b x1 v.1 v.2.1 v.2.2.1 v.2.2.2) n v
def zM_who (x1 : Int32) (I : iq_I) : Option (Int32 × iq_I) :=
  ir_let (iq_upI I 76 0 (0 : Int32)) fun I1 =>
  (zM_isWhat x1 (1 : Int32) I1).bind fun q2 =>
  if ¬ q2.1 = 0 then (
    (zM_who_l23 x1 ir_F ((0 : Int32), (-1 : Int32), (0 : Int32), q2.2)).bind fun w8 =>
    if ¬ x1 = 0 then (
      some (w8.2.1, w8.2.2)) else (
      some (w8.1, w8.2.2))) else (
    some ((0 : Int32), q2.2))
def zO_forget  (I : iq_I) : Option (iq_I) :=
  ir_let (iq_upI I 16 2 (0 : Int32)) fun I1 =>
  some I1
def zM_forget  (I : iq_I) : Option (iq_I) :=
  ir_let (iq_upI I 76 0 (0 : Int32)) fun I1 =>
  ir_let (iq_upI I1 76 63 (0 : Int32)) fun I2 =>
  some I2
def zG_witness (x1 : Int32) (x2 : Int32) (I : iq_I) : Option (iq_I) :=
  if (3 : Int32) ≤ (I 16 2) then (
    some I) else (
    if iq_in (I 16 2) 3 then (
      ir_let (iq_upI I 25 (Int32.toNatClampNeg (I 16 2)) x1) fun I1 =>
      if iq_in (I1 16 2) 3 then (
        ir_let (iq_upI I1 26 (Int32.toNatClampNeg (I1 16 2)) x2) fun I2 =>
        ir_let (iq_upI I2 16 2 ((I2 16 2) + (1 : Int32))) fun I3 =>
        some I3) else none) else none)
def zO_see (x1 : Int32) (x2 : Int32) (I : iq_I) (X : iq_X) : Option ((Int32 ⊕ Nat) × iq_I × iq_X) :=
  (zO_needSaying x1 I X).bind fun q1 =>
  iq_sm q1.1 (fun a2 =>
    (zO_needWord x2 I q1.2).bind fun q4 =>
    iq_sm q4.1 (fun a5 =>
      if (I 16 2) < (3 : Int32) then (
        (zG_witness x1 x2 I).bind fun q7 =>
        some (.inl (q7 16 2), q7, q4.2)) else (
        ir_let (iq_upI I 3 2 ((I 3 2) + (1 : Int32))) fun I8 =>
        some (.inl (-1 : Int32), I8, q4.2))) (fun k6 => some (.inr k6, I, q4.2))) (fun k3 => some (.inr k3, I, q1.2))
def zL_see (x1 : Int32) (x2 : Int32) (I : iq_I) (J : iq_J) (X : iq_X) : Option (Int32 × iq_I × iq_J × iq_X) :=
  (zO_see x1 x2 I X).bind fun q1 =>
  iq_sm q1.1 (fun a2 =>
    ir_let (iq_upJ J 114 0 (Int32.toInt64 a2)) fun J4 =>
    some ((0 : Int32), q1.2.1, J4, q1.2.2)) (fun k3 => if k3 = 0 then (
    some ((1 : Int32), q1.2.1, J, q1.2.2)) else (
  if k3 = 1 then (
    none) else none))
def zM_refuses (x1 : Int32) (I : iq_I) : Option (Int32 × iq_I) :=
  if iq_in x1 3 then (
    if iq_in x1 3 then (
      ir_let (iq_upI I 86 (Int32.toNatClampNeg x1) ((I 86 (Int32.toNatClampNeg x1)) + (1 : Int32))) fun I1 =>
      some ((-1 : Int32), I1)) else none) else none
