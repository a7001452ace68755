/-! ===== the abstract machine does the same (printed by wip/whole/emitall.py, split.py) ===== -/
set_option maxRecDepth 100000 in
theorem zH_whatMayCome_69_50_l16_bok (l : Nat)  (x2 : Int32) (x3 : Int32) (J : iq_J) (X : iq_X) (x4 : Int32) (x5 : Int32) (I : iq_I) {q : (Int32 × Int32 × iq_I) ⊕ (Int32 × iq_I)} (h : zH_whatMayCome_69_50_l16_b x2 x3 x4 x5 I = some q) (r : iq_R × iq_M) (hc : ∀ v, q = .inl v → iq_Gg 3 19 (16, [some (.ref 69), some (.ref 50), some (.int x2), some (.int x3), some (.int v.1), some (.int v.2.1)], [], (iq_sh l, v.2.2, J, X)) r) (hx : ∀ w, q = .inr w → iq_Gg 3 19 (70, [none, none, none, none, some (.int w.1), none], [], (iq_sh l, w.2, J, X)) r) : iq_Gg 3 19 (16, [some (.ref 69), some (.ref 50), some (.int x2), some (.int x3), some (.int x4), some (.int x5)], [], (iq_sh l, I, J, X)) r := by
  unfold zH_whatMayCome_69_50_l16_b at h
  refine iq_G_go (k := 4) (σ' := (25, [some (.ref 69), some (.ref 50), some (.int x2), some (.int x3), some (.int x4), some (.int x5)], [.int (I 4 2), .int x5], (iq_sh l, I, J, X))) (fun _ => rfl) ?_
  rcases iq_ite h with ⟨hc_, h⟩ | ⟨hc_, h⟩
  · refine iq_G_pos (c := (I 4 2) ≤ x5) (σ1 := (70, [some (.ref 69), some (.ref 50), some (.int x2), some (.int x3), some (.int x4), some (.int x5)], [], (iq_sh l, I, J, X))) (fun _ => rfl) hc_ ?_
    cases h
    exact iq_G_fg (L := [none, none, none, none, some (.int x4), none]) (And.intro rfl trivial) (hx (x4, I) rfl)
  · refine iq_G_neg (c := (I 4 2) ≤ x5) (σ1 := (28, [some (.ref 69), some (.ref 50), some (.int x2), some (.int x3), some (.int x4), some (.int x5)], [], (iq_sh l, I, J, X))) (fun _ => rfl) hc_ ?_
    refine iq_G_go (k := 5) (σ' := (34, [some (.ref 69), some (.ref 50), some (.int x2), some (.int x3), some (.int x4), some (.int x5)], [.int x5, .int x3, .int x2, .ref 50, .ref 69], (iq_sh l, I, J, X))) (fun _ => rfl) ?_
    obtain ⟨q2, hq2, h⟩ := iq_bnd h
    refine iq_G_call (σ' := (37, [some (.ref 69), some (.ref 50), some (.int x2), some (.int x3), some (.int x4), some (.int x5)], [.int q2], (iq_sh l, I, J, X))) (fun _ => rfl) (zH_isFree_69_50_ok l x2 x3 x5 I J X hq2) rfl rfl ?_
    rcases iq_ite h with ⟨hc_, h⟩ | ⟨hc_, h⟩
    · refine iq_G_pos (c := q2 = 0) (σ1 := (64, [some (.ref 69), some (.ref 50), some (.int x2), some (.int x3), some (.int x4), some (.int x5)], [], (iq_sh l, I, J, X))) (fun _ => rfl) hc_ ?_
      refine iq_G_go (k := 2) (σ' := (16, [some (.ref 69), some (.ref 50), some (.int x2), some (.int x3), some (.int x4), some (.int (x5 + (1 : Int32)))], [], (iq_sh l, I, J, X))) (fun _ => rfl) ?_
      cases h
      exact iq_G_fg (L := [some (.ref 69), some (.ref 50), some (.int x2), some (.int x3), some (.int x4), some (.int (x5 + (1 : Int32)))]) (And.intro rfl (And.intro rfl (And.intro rfl (And.intro rfl (And.intro rfl (And.intro rfl trivial)))))) (hc (x4, (x5 + (1 : Int32)), I) rfl)
    · refine iq_G_neg (c := q2 = 0) (σ1 := (40, [some (.ref 69), some (.ref 50), some (.int x2), some (.int x3), some (.int x4), some (.int x5)], [], (iq_sh l, I, J, X))) (fun _ => rfl) hc_ ?_
      refine iq_G_go (k := 6) (σ' := (49, [some (.ref 69), some (.ref 50), some (.int x2), some (.int x3), some (.int x4), some (.int x5)], [.int (I 50 1), .int x5, .int x2, .ref 50, .ref 69], (iq_sh l, I, J, X))) (fun _ => rfl) ?_
      obtain ⟨q3, hq3, h⟩ := iq_bnd h
      refine iq_G_call (σ' := (52, [some (.ref 69), some (.ref 50), some (.int x2), some (.int x3), some (.int x4), some (.int x5)], [.int q3.1], (iq_sh l, q3.2, J, X))) (fun _ => rfl) (zH_isLawful_69_50_ok l x2 x5 (I 50 1) I J X hq3) rfl rfl ?_
      rcases iq_ite h with ⟨hc_, h⟩ | ⟨hc_, h⟩
      · refine iq_G_pos (c := q3.1 = 0) (σ1 := (64, [some (.ref 69), some (.ref 50), some (.int x2), some (.int x3), some (.int x4), some (.int x5)], [], (iq_sh l, q3.2, J, X))) (fun _ => rfl) hc_ ?_
        refine iq_G_go (k := 2) (σ' := (16, [some (.ref 69), some (.ref 50), some (.int x2), some (.int x3), some (.int x4), some (.int (x5 + (1 : Int32)))], [], (iq_sh l, q3.2, J, X))) (fun _ => rfl) ?_
        cases h
        exact iq_G_fg (L := [some (.ref 69), some (.ref 50), some (.int x2), some (.int x3), some (.int x4), some (.int (x5 + (1 : Int32)))]) (And.intro rfl (And.intro rfl (And.intro rfl (And.intro rfl (And.intro rfl (And.intro rfl trivial)))))) (hc (x4, (x5 + (1 : Int32)), q3.2) rfl)
      · refine iq_G_neg (c := q3.1 = 0) (σ1 := (55, [some (.ref 69), some (.ref 50), some (.int x2), some (.int x3), some (.int x4), some (.int x5)], [], (iq_sh l, q3.2, J, X))) (fun _ => rfl) hc_ ?_
        refine iq_G_go (k := 8) (σ' := (16, [some (.ref 69), some (.ref 50), some (.int x2), some (.int x3), some (.int (x4 ||| ((1 : Int32) <<< (x5 &&& 31)))), some (.int (x5 + (1 : Int32)))], [], (iq_sh l, q3.2, J, X))) (fun _ => rfl) ?_
        cases h
        exact iq_G_fg (L := [some (.ref 69), some (.ref 50), some (.int x2), some (.int x3), some (.int (x4 ||| ((1 : Int32) <<< (x5 &&& 31)))), some (.int (x5 + (1 : Int32)))]) (And.intro rfl (And.intro rfl (And.intro rfl (And.intro rfl (And.intro rfl (And.intro rfl trivial)))))) (hc ((x4 ||| ((1 : Int32) <<< (x5 &&& 31))), (x5 + (1 : Int32)), q3.2) rfl)
set_option maxRecDepth 100000 in
theorem zH_whatMayCome_69_50_l16_ok (l : Nat)  (x2 : Int32) (x3 : Int32) (J : iq_J) (X : iq_X) {n : Nat} {v : Int32 × Int32 × iq_I} {w : Int32 × iq_I} (h : zH_whatMayCome_69_50_l16 x2 x3 n v = some w) (r : iq_R × iq_M) (hq : iq_Gg 3 19 (70, [none, none, none, none, some (.int w.1), none], [], (iq_sh l, w.2, J, X)) r) : iq_Gg 3 19 (16, [some (.ref 69), some (.ref 50), some (.int x2), some (.int x3), some (.int v.1), some (.int v.2.1)], [], (iq_sh l, v.2.2, J, X)) r :=
  iq_lp_ok (σ := fun v => (16, [some (.ref 69), some (.ref 50), some (.int x2), some (.int x3), some (.int v.1), some (.int v.2.1)], [], (iq_sh l, v.2.2, J, X))) (Q := fun w r => iq_Gg 3 19 (70, [none, none, none, none, some (.int w.1), none], [], (iq_sh l, w.2, J, X)) r) (fun v q hv r h1 h2 => zH_whatMayCome_69_50_l16_bok l x2 x3 J X v.1 v.2.1 v.2.2 hv r h1 h2) h r hq
set_option maxRecDepth 100000 in
theorem zH_whatMayCome_69_50_ok (l : Nat)  (x2 : Int32) (I : iq_I) (J : iq_J) (X : iq_X) {q : Int32 × iq_I} (h : zH_whatMayCome_69_50 x2 I = some q) : iq_Cc 4 19 [.ref 69, .ref 50, .int x2] (iq_sh l, I, J, X) (.inl (some (.int q.1)), (iq_sh l, q.2, J, X)) := by
  refine iq_Cc_of (L := [some (.ref 69), some (.ref 50), some (.int x2), none, none, none]) rfl rfl ?_
  unfold zH_whatMayCome_69_50 at h
  refine iq_G_go (k := 4) (σ' := (6, [some (.ref 69), some (.ref 50), some (.int x2), none, none, none], [.int x2, .ref 50, .ref 4], (iq_sh l, I, J, X))) (fun _ => rfl) ?_
  obtain ⟨q1, hq1, h⟩ := iq_bnd h
  refine iq_G_call (σ' := (9, [some (.ref 69), some (.ref 50), some (.int x2), none, none, none], [.int q1], (iq_sh l, I, J, X))) (fun _ => rfl) (zU_stateOf_4_50_ok l x2 I J X hq1) rfl rfl ?_
  refine iq_G_go (k := 5) (σ' := (16, [some (.ref 69), some (.ref 50), some (.int x2), some (.int q1), some (.int (0 : Int32)), some (.int (0 : Int32))], [], (iq_sh l, I, J, X))) (fun _ => rfl) ?_
  obtain ⟨w4, hw4, h⟩ := iq_bnd h
  refine iq_G_fg (L := [some (.ref 69), some (.ref 50), some (.int x2), some (.int q1), some (.int (0 : Int32)), some (.int (0 : Int32))]) (And.intro rfl (And.intro rfl (And.intro rfl (And.intro rfl (And.intro rfl (And.intro rfl trivial)))))) ?_
  refine zH_whatMayCome_69_50_l16_ok l x2 q1 J X hw4 _ ?_
  show iq_Gg 3 19 (70, [none, none, none, none, some (.int w4.1), none], [], (iq_sh l, w4.2, J, X)) _
  refine iq_G_go (k := 1) (σ' := (72, [none, none, none, none, some (.int w4.1), none], [.int w4.1], (iq_sh l, w4.2, J, X))) (fun _ => rfl) ?_
  cases h
  exact iq_G_ret (fun _ => rfl)
set_option maxRecDepth 100000 in
theorem zH_weigh_69_50_63_ok (l : Nat)  (x2 : Int32) (x3 : Int32) (x4 : Int32) (x5 : Int32) (x6 : Int32) (x7 : Int32) (I : iq_I) (J : iq_J) (X : iq_X)  {q : (Int32 × Int32 × iq_I) ⊕ (Int32 × iq_I)} (h : zH_weigh_69_50_63 x2 x3 x4 x5 x6 x7 I = some q) (r : iq_R × iq_M) (hc : ∀ v, q = .inl v → iq_Gg 4 24 (14, [some (.ref 69), some (.ref 50), some (.int x2), some (.int x3), some (.int x4), some (.int v.1), some (.int v.2.1), none], [], (iq_sh l, v.2.2, J, X)) r) (hx : ∀ w, q = .inr w → iq_Gg 4 24 (99, [none, none, none, none, none, some (.int w.1), none, none], [], (iq_sh l, w.2, J, X)) r) : iq_Gg 4 24 (63, [some (.ref 69), some (.ref 50), some (.int x2), some (.int x3), some (.int x4), some (.int x5), some (.int x6), some (.int x7)], [], (iq_sh l, I, J, X)) r := by
  unfold zH_weigh_69_50_63 at h
  refine iq_G_go (k := 8) (σ' := (80, [some (.ref 69), some (.ref 50), some (.int x2), some (.int x3), some (.int x4), some (.int x5), some (.int x6), some (.int x7)], [.int (ir_max (0 : Int32) (ir_min (99 : Int32) x7)), .int x6, .ref 71], (iq_sh l, I, J, X))) (fun _ => rfl) ?_
  obtain ⟨hc_, h⟩ := iq_itn h
  refine iq_G_pos (c := iq_in x6 14) (σ1 := (81, [some (.ref 69), some (.ref 50), some (.int x2), some (.int x3), some (.int x4), some (.int x5), some (.int x6), some (.int x7)], [], (iq_sh l, (iq_upI I 71 (Int32.toNatClampNeg x6) (ir_max (0 : Int32) (ir_min (99 : Int32) x7))), J, X))) (fun _ => rfl) hc_ ?_
  obtain ⟨I2, eI2, h⟩ := ir_letG h
  rw [← eI2]
  clear eI2
  refine iq_G_go (k := 4) (σ' := (89, [some (.ref 69), some (.ref 50), some (.int x2), some (.int x3), some (.int x4), some (.int x5), some (.int x6), some (.int x7)], [.int x6, .ref 71, .int x5], (iq_sh l, I2, J, X))) (fun _ => rfl) ?_
  obtain ⟨hc_, h⟩ := iq_itn h
  refine iq_G_pos (c := iq_in x6 14) (σ1 := (90, [some (.ref 69), some (.ref 50), some (.int x2), some (.int x3), some (.int x4), some (.int x5), some (.int x6), some (.int x7)], [.int (I2 71 (Int32.toNatClampNeg x6)), .int x5], (iq_sh l, I2, J, X))) (fun _ => rfl) hc_ ?_
  refine iq_G_go (k := 4) (σ' := (14, [some (.ref 69), some (.ref 50), some (.int x2), some (.int x3), some (.int x4), some (.int (x5 + (I2 71 (Int32.toNatClampNeg x6)))), some (.int (x6 + (1 : Int32))), some (.int x7)], [], (iq_sh l, I2, J, X))) (fun _ => rfl) ?_
  cases h
  exact iq_G_fg (L := [some (.ref 69), some (.ref 50), some (.int x2), some (.int x3), some (.int x4), some (.int (x5 + (I2 71 (Int32.toNatClampNeg x6)))), some (.int (x6 + (1 : Int32))), none]) (And.intro rfl (And.intro rfl (And.intro rfl (And.intro rfl (And.intro rfl (And.intro rfl (And.intro rfl trivial))))))) (hc ((x5 + (I2 71 (Int32.toNatClampNeg x6))), (x6 + (1 : Int32)), I2) rfl)
set_option maxRecDepth 100000 in
theorem zH_weigh_69_50_l14_bok (l : Nat)  (x2 : Int32) (x3 : Int32) (x4 : Int32) (J : iq_J) (X : iq_X) (x5 : Int32) (x6 : Int32) (I : iq_I) {q : (Int32 × Int32 × iq_I) ⊕ (Int32 × iq_I)} (h : zH_weigh_69_50_l14_b x2 x3 x4 x5 x6 I = some q) (r : iq_R × iq_M) (hc : ∀ v, q = .inl v → iq_Gg 4 24 (14, [some (.ref 69), some (.ref 50), some (.int x2), some (.int x3), some (.int x4), some (.int v.1), some (.int v.2.1), none], [], (iq_sh l, v.2.2, J, X)) r) (hx : ∀ w, q = .inr w → iq_Gg 4 24 (99, [none, none, none, none, none, some (.int w.1), none, none], [], (iq_sh l, w.2, J, X)) r) : iq_Gg 4 24 (14, [some (.ref 69), some (.ref 50), some (.int x2), some (.int x3), some (.int x4), some (.int x5), some (.int x6), none], [], (iq_sh l, I, J, X)) r := by
  unfold zH_weigh_69_50_l14_b at h
  refine iq_G_go (k := 2) (σ' := (18, [some (.ref 69), some (.ref 50), some (.int x2), some (.int x3), some (.int x4), some (.int x5), some (.int x6), none], [.int (14 : Int32), .int x6], (iq_sh l, I, J, X))) (fun _ => rfl) ?_
  rcases iq_ite h with ⟨hc_, h⟩ | ⟨hc_, h⟩
  · refine iq_G_pos (c := (14 : Int32) ≤ x6) (σ1 := (99, [some (.ref 69), some (.ref 50), some (.int x2), some (.int x3), some (.int x4), some (.int x5), some (.int x6), none], [], (iq_sh l, I, J, X))) (fun _ => rfl) hc_ ?_
    cases h
    exact iq_G_fg (L := [none, none, none, none, none, some (.int x5), none, none]) (And.intro rfl trivial) (hx (x5, I) rfl)
  · refine iq_G_neg (c := (14 : Int32) ≤ x6) (σ1 := (21, [some (.ref 69), some (.ref 50), some (.int x2), some (.int x3), some (.int x4), some (.int x5), some (.int x6), none], [], (iq_sh l, I, J, X))) (fun _ => rfl) hc_ ?_
    refine iq_G_go (k := 7) (σ' := (31, [some (.ref 69), some (.ref 50), some (.int x2), some (.int x3), some (.int x4), some (.int x5), some (.int x6), some (.int (0 : Int32))], [.int ((x4 >>> (x6 &&& 31)) &&& (1 : Int32))], (iq_sh l, I, J, X))) (fun _ => rfl) ?_
    rcases iq_ite h with ⟨hc_, h⟩ | ⟨hc_, h⟩
    · refine iq_G_pos (c := ((x4 >>> (x6 &&& 31)) &&& (1 : Int32)) = 0) (σ1 := (63, [some (.ref 69), some (.ref 50), some (.int x2), some (.int x3), some (.int x4), some (.int x5), some (.int x6), some (.int (0 : Int32))], [], (iq_sh l, I, J, X))) (fun _ => rfl) hc_ ?_
      exact iq_G_fg (L := [some (.ref 69), some (.ref 50), some (.int x2), some (.int x3), some (.int x4), some (.int x5), some (.int x6), some (.int (0 : Int32))]) (And.intro rfl (And.intro rfl (And.intro rfl (And.intro rfl (And.intro rfl (And.intro rfl (And.intro rfl (And.intro rfl trivial)))))))) (zH_weigh_69_50_63_ok l x2 x3 x4 x5 x6 (0 : Int32) I J X  h r hc hx)
    · refine iq_G_neg (c := ((x4 >>> (x6 &&& 31)) &&& (1 : Int32)) = 0) (σ1 := (34, [some (.ref 69), some (.ref 50), some (.int x2), some (.int x3), some (.int x4), some (.int x5), some (.int x6), some (.int (0 : Int32))], [], (iq_sh l, I, J, X))) (fun _ => rfl) hc_ ?_
      refine iq_G_go (k := 6) (σ' := (43, [some (.ref 69), some (.ref 50), some (.int x2), some (.int x3), some (.int x4), some (.int x5), some (.int x6), some (.int (0 : Int32))], [.int (I 50 1), .int x6, .int x3, .ref 50, .ref 69], (iq_sh l, I, J, X))) (fun _ => rfl) ?_
      obtain ⟨q3, hq3, h⟩ := iq_bnd h
      refine iq_G_call (σ' := (46, [some (.ref 69), some (.ref 50), some (.int x2), some (.int x3), some (.int x4), some (.int x5), some (.int x6), some (.int (0 : Int32))], [], (iq_sh l, q3, J, X))) (fun _ => rfl) (zH_fillValues_69_50_ok l x3 x6 (I 50 1) I J X hq3) rfl rfl ?_
      refine iq_G_go (k := 6) (σ' := (58, [some (.ref 69), some (.ref 50), some (.int x2), some (.int x3), some (.int x4), some (.int x5), some (.int x6), some (.int (0 : Int32))], [.ref 70, .int x2, .ref 8], (iq_sh l, q3, J, X))) (fun _ => rfl) ?_
      obtain ⟨q4, hq4, h⟩ := iq_bnd h
      refine iq_G_call (σ' := (61, [some (.ref 69), some (.ref 50), some (.int x2), some (.int x3), some (.int x4), some (.int x5), some (.int x6), some (.int (0 : Int32))], [.int q4.1], (iq_sh l, q4.2, J, X))) (fun _ => rfl) (zE_give_ok l x2 q3 J X hq4) rfl rfl ?_
      refine iq_G_go (k := 1) (σ' := (63, [some (.ref 69), some (.ref 50), some (.int x2), some (.int x3), some (.int x4), some (.int x5), some (.int x6), some (.int q4.1)], [], (iq_sh l, q4.2, J, X))) (fun _ => rfl) ?_
      exact iq_G_fg (L := [some (.ref 69), some (.ref 50), some (.int x2), some (.int x3), some (.int x4), some (.int x5), some (.int x6), some (.int q4.1)]) (And.intro rfl (And.intro rfl (And.intro rfl (And.intro rfl (And.intro rfl (And.intro rfl (And.intro rfl (And.intro rfl trivial)))))))) (zH_weigh_69_50_63_ok l x2 x3 x4 x5 x6 q4.1 q4.2 J X  h r hc hx)
set_option maxRecDepth 100000 in
theorem zH_weigh_69_50_l14_ok (l : Nat)  (x2 : Int32) (x3 : Int32) (x4 : Int32) (J : iq_J) (X : iq_X) {n : Nat} {v : Int32 × Int32 × iq_I} {w : Int32 × iq_I} (h : zH_weigh_69_50_l14 x2 x3 x4 n v = some w) (r : iq_R × iq_M) (hq : iq_Gg 4 24 (99, [none, none, none, none, none, some (.int w.1), none, none], [], (iq_sh l, w.2, J, X)) r) : iq_Gg 4 24 (14, [some (.ref 69), some (.ref 50), some (.int x2), some (.int x3), some (.int x4), some (.int v.1), some (.int v.2.1), none], [], (iq_sh l, v.2.2, J, X)) r :=
  iq_lp_ok (σ := fun v => (14, [some (.ref 69), some (.ref 50), some (.int x2), some (.int x3), some (.int x4), some (.int v.1), some (.int v.2.1), none], [], (iq_sh l, v.2.2, J, X))) (Q := fun w r => iq_Gg 4 24 (99, [none, none, none, none, none, some (.int w.1), none, none], [], (iq_sh l, w.2, J, X)) r) (fun v q hv r h1 h2 => zH_weigh_69_50_l14_bok l x2 x3 x4 J X v.1 v.2.1 v.2.2 hv r h1 h2) h r hq
set_option maxRecDepth 100000 in
theorem zH_weigh_69_50_ok (l : Nat)  (x2 : Int32) (x3 : Int32) (I : iq_I) (J : iq_J) (X : iq_X) {q : Int32 × iq_I} (h : zH_weigh_69_50 x2 x3 I = some q) : iq_Cc 5 24 [.ref 69, .ref 50, .int x2, .int x3] (iq_sh l, I, J, X) (.inl (some (.int q.1)), (iq_sh l, q.2, J, X)) := by
  refine iq_Cc_of (L := [some (.ref 69), some (.ref 50), some (.int x2), some (.int x3), none, none, none, none]) rfl rfl ?_
  unfold zH_weigh_69_50 at h
  refine iq_G_go (k := 3) (σ' := (3, [some (.ref 69), some (.ref 50), some (.int x2), some (.int x3), none, none, none, none], [.int x3, .ref 50, .ref 69], (iq_sh l, I, J, X))) (fun _ => rfl) ?_
  obtain ⟨q1, hq1, h⟩ := iq_bnd h
  refine iq_G_call (σ' := (6, [some (.ref 69), some (.ref 50), some (.int x2), some (.int x3), none, none, none, none], [.int q1.1], (iq_sh l, q1.2, J, X))) (fun _ => rfl) (zH_whatMayCome_69_50_ok l x3 I J X hq1) rfl rfl ?_
  refine iq_G_go (k := 5) (σ' := (14, [some (.ref 69), some (.ref 50), some (.int x2), some (.int x3), some (.int q1.1), some (.int (0 : Int32)), some (.int (0 : Int32)), none], [], (iq_sh l, q1.2, J, X))) (fun _ => rfl) ?_
  obtain ⟨w5, hw5, h⟩ := iq_bnd h
  refine iq_G_fg (L := [some (.ref 69), some (.ref 50), some (.int x2), some (.int x3), some (.int q1.1), some (.int (0 : Int32)), some (.int (0 : Int32)), none]) (And.intro rfl (And.intro rfl (And.intro rfl (And.intro rfl (And.intro rfl (And.intro rfl (And.intro rfl trivial))))))) ?_
  refine zH_weigh_69_50_l14_ok l x2 x3 q1.1 J X hw5 _ ?_
  show iq_Gg 4 24 (99, [none, none, none, none, none, some (.int w5.1), none, none], [], (iq_sh l, w5.2, J, X)) _
  refine iq_G_go (k := 1) (σ' := (101, [none, none, none, none, none, some (.int w5.1), none, none], [.int w5.1], (iq_sh l, w5.2, J, X))) (fun _ => rfl) ?_
  cases h
  exact iq_G_ret (fun _ => rfl)
set_option maxRecDepth 100000 in
theorem zH_wordAtWeight_l4_bok (l : Nat)   (I : iq_I) (J : iq_J) (X : iq_X) (x2 : Int32) (x3 : Int32)  {q : (Int32 × Int32) ⊕ ((Unit) ⊕ (Int32))} (h : zH_wordAtWeight_l4_b I x2 x3 = some q) (r : iq_R × iq_M) (hc : ∀ v, q = .inl v → iq_Gg 0 34 (4, [some (.ref 69), none, some (.int v.1), some (.int v.2)], [], (iq_sh l, I, J, X)) r) (hx : ∀ w, q = .inr w → (∀ a, w = .inl a → iq_Gg 0 34 (37, [none, none, none, none], [], (iq_sh l, I, J, X)) r) ∧ (∀ b, w = .inr b → r = (.inl (some (.int b)), (iq_sh l, I, J, X)))) : iq_Gg 0 34 (4, [some (.ref 69), none, some (.int x2), some (.int x3)], [], (iq_sh l, I, J, X)) r := by
  unfold zH_wordAtWeight_l4_b at h
  refine iq_G_go (k := 2) (σ' := (7, [some (.ref 69), none, some (.int x2), some (.int x3)], [.int (14 : Int32), .int x3], (iq_sh l, I, J, X))) (fun _ => rfl) ?_
  rcases iq_ite h with ⟨hc_, h⟩ | ⟨hc_, h⟩
  · refine iq_G_pos (c := (14 : Int32) ≤ x3) (σ1 := (37, [some (.ref 69), none, some (.int x2), some (.int x3)], [], (iq_sh l, I, J, X))) (fun _ => rfl) hc_ ?_
    cases h
    exact iq_G_fg (L := [none, none, none, none]) trivial ((hx (.inl ()) rfl).1 () rfl)
  · refine iq_G_neg (c := (14 : Int32) ≤ x3) (σ1 := (10, [some (.ref 69), none, some (.int x2), some (.int x3)], [], (iq_sh l, I, J, X))) (fun _ => rfl) hc_ ?_
    refine iq_G_go (k := 4) (σ' := (16, [some (.ref 69), none, some (.int x2), some (.int x3)], [.int x3, .ref 71, .int x2], (iq_sh l, I, J, X))) (fun _ => rfl) ?_
    obtain ⟨hc_, h⟩ := iq_itn h
    refine iq_G_pos (c := iq_in x3 14) (σ1 := (17, [some (.ref 69), none, some (.int x2), some (.int x3)], [.int (I 71 (Int32.toNatClampNeg x3)), .int x2], (iq_sh l, I, J, X))) (fun _ => rfl) hc_ ?_
    rcases iq_ite h with ⟨hc_, h⟩ | ⟨hc_, h⟩
    · refine iq_G_pos (c := (I 71 (Int32.toNatClampNeg x3)) ≤ x2) (σ1 := (22, [some (.ref 69), none, some (.int x2), some (.int x3)], [], (iq_sh l, I, J, X))) (fun _ => rfl) hc_ ?_
      refine iq_G_go (k := 4) (σ' := (28, [some (.ref 69), none, some (.int x2), some (.int x3)], [.int x3, .ref 71, .int x2], (iq_sh l, I, J, X))) (fun _ => rfl) ?_
      obtain ⟨hc_, h⟩ := iq_itn h
      refine iq_G_pos (c := iq_in x3 14) (σ1 := (29, [some (.ref 69), none, some (.int x2), some (.int x3)], [.int (I 71 (Int32.toNatClampNeg x3)), .int x2], (iq_sh l, I, J, X))) (fun _ => rfl) hc_ ?_
      refine iq_G_go (k := 4) (σ' := (4, [some (.ref 69), none, some (.int (x2 - (I 71 (Int32.toNatClampNeg x3)))), some (.int (x3 + (1 : Int32)))], [], (iq_sh l, I, J, X))) (fun _ => rfl) ?_
      cases h
      exact iq_G_fg (L := [some (.ref 69), none, some (.int (x2 - (I 71 (Int32.toNatClampNeg x3)))), some (.int (x3 + (1 : Int32)))]) (And.intro rfl (And.intro rfl (And.intro rfl trivial))) (hc ((x2 - (I 71 (Int32.toNatClampNeg x3))), (x3 + (1 : Int32))) rfl)
    · refine iq_G_neg (c := (I 71 (Int32.toNatClampNeg x3)) ≤ x2) (σ1 := (20, [some (.ref 69), none, some (.int x2), some (.int x3)], [], (iq_sh l, I, J, X))) (fun _ => rfl) hc_ ?_
      refine iq_G_go (k := 1) (σ' := (21, [some (.ref 69), none, some (.int x2), some (.int x3)], [.int x3], (iq_sh l, I, J, X))) (fun _ => rfl) ?_
      cases h
      obtain rfl := (hx _ rfl).2 _ rfl
      exact iq_G_ret (fun _ => rfl)
set_option maxRecDepth 100000 in
theorem zH_wordAtWeight_l4_ok (l : Nat)   (I : iq_I) (J : iq_J) (X : iq_X) {n : Nat} {v : Int32 × Int32} {w : (Unit) ⊕ (Int32)} (h : zH_wordAtWeight_l4 I n v = some w) (r : iq_R × iq_M) (hq : (∀ a, w = .inl a → iq_Gg 0 34 (37, [none, none, none, none], [], (iq_sh l, I, J, X)) r) ∧ (∀ b, w = .inr b → r = (.inl (some (.int b)), (iq_sh l, I, J, X)))) : iq_Gg 0 34 (4, [some (.ref 69), none, some (.int v.1), some (.int v.2)], [], (iq_sh l, I, J, X)) r :=
  iq_lp_ok (σ := fun v => (4, [some (.ref 69), none, some (.int v.1), some (.int v.2)], [], (iq_sh l, I, J, X))) (Q := fun w r => (∀ a, w = .inl a → iq_Gg 0 34 (37, [none, none, none, none], [], (iq_sh l, I, J, X)) r) ∧ (∀ b, w = .inr b → r = (.inl (some (.int b)), (iq_sh l, I, J, X)))) (fun v q hv r h1 h2 => zH_wordAtWeight_l4_bok l I J X v.1 v.2 hv r h1 h2) h r hq
set_option maxRecDepth 100000 in
theorem zH_wordAtWeight_ok (l : Nat)  (x1 : Int32) (I : iq_I) (J : iq_J) (X : iq_X) {q : Int32} (h : zH_wordAtWeight x1 I = some q) : iq_Cc 1 34 [.ref 69, .int x1] (iq_sh l, I, J, X) (.inl (some (.int q)), (iq_sh l, I, J, X)) := by
  refine iq_Cc_of (L := [some (.ref 69), some (.int x1), none, none]) rfl rfl ?_
  unfold zH_wordAtWeight at h
  refine iq_G_go (k := 4) (σ' := (4, [some (.ref 69), some (.int x1), some (.int x1), some (.int (0 : Int32))], [], (iq_sh l, I, J, X))) (fun _ => rfl) ?_
  obtain ⟨w1, hw1, h⟩ := iq_bnd h
  refine iq_G_fg (L := [some (.ref 69), none, some (.int x1), some (.int (0 : Int32))]) (And.intro rfl (And.intro rfl (And.intro rfl trivial))) ?_
  refine zH_wordAtWeight_l4_ok l I J X hw1 _ ⟨fun a2 ha => ?_, fun b3 hb => ?_⟩
  · subst ha
    replace h := ir_smL h
    show iq_Gg 0 34 (37, [none, none, none, none], [], (iq_sh l, I, J, X)) _
    refine iq_G_go (k := 1) (σ' := (38, [none, none, none, none], [.int (0 : Int32)], (iq_sh l, I, J, X))) (fun _ => rfl) ?_
    cases h
    exact iq_G_ret (fun _ => rfl)
  · subst hb
    replace h := ir_smR h
    cases h
    rfl
set_option maxRecDepth 100000 in
theorem zG_putIn_50_ok (l : Nat)  (x1 : Int32) (x2 : Int32) (x3 : Int32) (I : iq_I) (J : iq_J) (X : iq_X) {q : iq_I} (h : zG_putIn_50 x1 x2 x3 I = some q) : iq_Cc 2 13 [.ref 50, .int x1, .int x2, .int x3] (iq_sh l, I, J, X) (.inl none, (iq_sh l, q, J, X)) := by
  refine iq_Cc_of (L := [some (.ref 50), some (.int x1), some (.int x2), some (.int x3), none, none]) rfl rfl ?_
  unfold zG_putIn_50 at h
  refine iq_G_go (k := 2) (σ' := (2, [some (.ref 50), some (.int x1), some (.int x2), some (.int x3), none, none], [.int x1, .ref 50], (iq_sh l, I, J, X))) (fun _ => rfl) ?_
  obtain ⟨q1, hq1, h⟩ := iq_bnd h
  refine iq_G_call (σ' := (5, [some (.ref 50), some (.int x1), some (.int x2), some (.int x3), none, none], [.int q1], (iq_sh l, I, J, X))) (fun _ => rfl) (zG_lengthOf_50_ok l x1 I J X hq1) rfl rfl ?_
  refine iq_G_go (k := 2) (σ' := (8, [some (.ref 50), some (.int x1), some (.int x2), some (.int x3), some (.int q1), none], [.int x1], (iq_sh l, I, J, X))) (fun _ => rfl) ?_
  rcases iq_ite h with ⟨hc_, h⟩ | ⟨hc_, h⟩
  · refine iq_G_pos (c := x1 < 0) (σ1 := (36, [some (.ref 50), some (.int x1), some (.int x2), some (.int x3), some (.int q1), none], [], (iq_sh l, I, J, X))) (fun _ => rfl) hc_ ?_
    cases h
    exact iq_G_ret (fun _ => rfl)
  · refine iq_G_neg (c := x1 < 0) (σ1 := (11, [some (.ref 50), some (.int x1), some (.int x2), some (.int x3), some (.int q1), none], [], (iq_sh l, I, J, X))) (fun _ => rfl) hc_ ?_
    refine iq_G_go (k := 3) (σ' := (16, [some (.ref 50), some (.int x1), some (.int x2), some (.int x3), some (.int q1), none], [.int (I 50 0), .int x1], (iq_sh l, I, J, X))) (fun _ => rfl) ?_
    rcases iq_ite h with ⟨hc_, h⟩ | ⟨hc_, h⟩
    · refine iq_G_pos (c := (I 50 0) ≤ x1) (σ1 := (36, [some (.ref 50), some (.int x1), some (.int x2), some (.int x3), some (.int q1), none], [], (iq_sh l, I, J, X))) (fun _ => rfl) hc_ ?_
      cases h
      exact iq_G_ret (fun _ => rfl)
    · refine iq_G_neg (c := (I 50 0) ≤ x1) (σ1 := (19, [some (.ref 50), some (.int x1), some (.int x2), some (.int x3), some (.int q1), none], [], (iq_sh l, I, J, X))) (fun _ => rfl) hc_ ?_
      refine iq_G_go (k := 2) (σ' := (23, [some (.ref 50), some (.int x1), some (.int x2), some (.int x3), some (.int q1), none], [.int (40 : Int32), .int q1], (iq_sh l, I, J, X))) (fun _ => rfl) ?_
      rcases iq_ite h with ⟨hc_, h⟩ | ⟨hc_, h⟩
      · refine iq_G_pos (c := (40 : Int32) ≤ q1) (σ1 := (36, [some (.ref 50), some (.int x1), some (.int x2), some (.int x3), some (.int q1), none], [], (iq_sh l, I, J, X))) (fun _ => rfl) hc_ ?_
        cases h
        exact iq_G_ret (fun _ => rfl)
      · refine iq_G_neg (c := (40 : Int32) ≤ q1) (σ1 := (26, [some (.ref 50), some (.int x1), some (.int x2), some (.int x3), some (.int q1), none], [], (iq_sh l, I, J, X))) (fun _ => rfl) hc_ ?_
        refine iq_G_go (k := 1) (σ' := (27, [some (.ref 50), some (.int x1), some (.int x2), some (.int x3), some (.int q1), none], [.int x2], (iq_sh l, I, J, X))) (fun _ => rfl) ?_
        rcases iq_ite h with ⟨hc_, h⟩ | ⟨hc_, h⟩
        · refine iq_G_pos (c := x2 < 0) (σ1 := (36, [some (.ref 50), some (.int x1), some (.int x2), some (.int x3), some (.int q1), none], [], (iq_sh l, I, J, X))) (fun _ => rfl) hc_ ?_
          cases h
          exact iq_G_ret (fun _ => rfl)
        · refine iq_G_neg (c := x2 < 0) (σ1 := (30, [some (.ref 50), some (.int x1), some (.int x2), some (.int x3), some (.int q1), none], [], (iq_sh l, I, J, X))) (fun _ => rfl) hc_ ?_
          refine iq_G_go (k := 2) (σ' := (33, [some (.ref 50), some (.int x1), some (.int x2), some (.int x3), some (.int q1), none], [.int q1, .int x2], (iq_sh l, I, J, X))) (fun _ => rfl) ?_
          rcases iq_ite h with ⟨hc_, h⟩ | ⟨hc_, h⟩
          · refine iq_G_pos (c := x2 ≤ q1) (σ1 := (37, [some (.ref 50), some (.int x1), some (.int x2), some (.int x3), some (.int q1), none], [], (iq_sh l, I, J, X))) (fun _ => rfl) hc_ ?_
            refine iq_G_go (k := 17) (σ' := (63, [some (.ref 50), some (.int x1), some (.int x2), some (.int x3), some (.int q1), some (.int ((x1 * (40 : Int32)) + x2))], [.int (q1 - x2), .int (((x1 * (40 : Int32)) + x2) + (1 : Int32)), .ref 58, .int ((x1 * (40 : Int32)) + x2), .ref 58], (iq_sh l, I, J, X))) (fun _ => rfl) ?_
            obtain ⟨hc_, h⟩ := iq_itn h
            have st_ : ∀ (z_0 : Int32) (r_ : iq_R × iq_M), 0 ≤ ((x1 * (40 : Int32)) + x2) ∧ 0 ≤ (((x1 * (40 : Int32)) + x2) + (1 : Int32)) ∧ 0 ≤ z_0 ∧ Int32.toNatClampNeg ((x1 * (40 : Int32)) + x2) + Int32.toNatClampNeg z_0 ≤ 200 ∧ Int32.toNatClampNeg (((x1 * (40 : Int32)) + x2) + (1 : Int32)) + Int32.toNatClampNeg z_0 ≤ 200 → iq_Gg 1 13 (66, [some (.ref 50), some (.int x1), some (.int x2), some (.int x3), some (.int q1), some (.int ((x1 * (40 : Int32)) + x2))], [], (iq_sh l, (iq_cpI I 58 58 (Int32.toNatClampNeg ((x1 * (40 : Int32)) + x2)) (Int32.toNatClampNeg (((x1 * (40 : Int32)) + x2) + (1 : Int32))) (Int32.toNatClampNeg z_0)), J, X)) r_ → iq_Gg 1 13 (63, [some (.ref 50), some (.int x1), some (.int x2), some (.int x3), some (.int q1), some (.int ((x1 * (40 : Int32)) + x2))], [.int z_0, .int (((x1 * (40 : Int32)) + x2) + (1 : Int32)), .ref 58, .int ((x1 * (40 : Int32)) + x2), .ref 58], (iq_sh l, I, J, X)) r_ := fun z_0 r_ hc_ hg_ => iq_G_pos (c := 0 ≤ ((x1 * (40 : Int32)) + x2) ∧ 0 ≤ (((x1 * (40 : Int32)) + x2) + (1 : Int32)) ∧ 0 ≤ z_0 ∧ Int32.toNatClampNeg ((x1 * (40 : Int32)) + x2) + Int32.toNatClampNeg z_0 ≤ 200 ∧ Int32.toNatClampNeg (((x1 * (40 : Int32)) + x2) + (1 : Int32)) + Int32.toNatClampNeg z_0 ≤ 200) (σ1 := (66, [some (.ref 50), some (.int x1), some (.int x2), some (.int x3), some (.int q1), some (.int ((x1 * (40 : Int32)) + x2))], [], (iq_sh l, (iq_cpI I 58 58 (Int32.toNatClampNeg ((x1 * (40 : Int32)) + x2)) (Int32.toNatClampNeg (((x1 * (40 : Int32)) + x2) + (1 : Int32))) (Int32.toNatClampNeg z_0)), J, X))) (fun _ => rfl) hc_ hg_
            refine st_ (q1 - x2) _ hc_ ?_
            clear st_
            obtain ⟨I2, eI2, h⟩ := ir_letG h
            rw [← eI2]
            clear eI2
            refine iq_G_go (k := 4) (σ' := (73, [some (.ref 50), some (.int x1), some (.int x2), some (.int x3), some (.int q1), some (.int ((x1 * (40 : Int32)) + x2))], [.int x3, .int ((x1 * (40 : Int32)) + x2), .ref 58], (iq_sh l, I2, J, X))) (fun _ => rfl) ?_
            obtain ⟨hc_, h⟩ := iq_itn h
            refine iq_G_pos (c := iq_in ((x1 * (40 : Int32)) + x2) 200) (σ1 := (74, [some (.ref 50), some (.int x1), some (.int x2), some (.int x3), some (.int q1), some (.int ((x1 * (40 : Int32)) + x2))], [], (iq_sh l, (iq_upI I2 58 (Int32.toNatClampNeg ((x1 * (40 : Int32)) + x2)) x3), J, X))) (fun _ => rfl) hc_ ?_
            obtain ⟨I3, eI3, h⟩ := ir_letG h
            rw [← eI3]
            clear eI3
            refine iq_G_go (k := 6) (σ' := (83, [some (.ref 50), some (.int x1), some (.int x2), some (.int x3), some (.int q1), some (.int ((x1 * (40 : Int32)) + x2))], [.int (q1 + (1 : Int32)), .int x1, .ref 52], (iq_sh l, I3, J, X))) (fun _ => rfl) ?_
            obtain ⟨hc_, h⟩ := iq_itn h
            refine iq_G_pos (c := iq_in x1 5) (σ1 := (84, [some (.ref 50), some (.int x1), some (.int x2), some (.int x3), some (.int q1), some (.int ((x1 * (40 : Int32)) + x2))], [], (iq_sh l, (iq_upI I3 52 (Int32.toNatClampNeg x1) (q1 + (1 : Int32))), J, X))) (fun _ => rfl) hc_ ?_
            obtain ⟨I4, eI4, h⟩ := ir_letG h
            rw [← eI4]
            clear eI4
            cases h
            exact iq_G_ret (fun _ => rfl)
          · refine iq_G_neg (c := x2 ≤ q1) (σ1 := (36, [some (.ref 50), some (.int x1), some (.int x2), some (.int x3), some (.int q1), none], [], (iq_sh l, I, J, X))) (fun _ => rfl) hc_ ?_
            cases h
            exact iq_G_ret (fun _ => rfl)
set_option maxRecDepth 100000 in
theorem zG_nextDay_50_ok (l : Nat)   (I : iq_I) (J : iq_J) (X : iq_X) {q : iq_I} (h : zG_nextDay_50 I = some q) : iq_Cc 1 15 [.ref 50] (iq_sh l, I, J, X) (.inl none, (iq_sh l, q, J, X)) := by
  refine iq_Cc_of (L := [some (.ref 50)]) rfl rfl ?_
  unfold zG_nextDay_50 at h
  refine iq_G_go (k := 6) (σ' := (9, [some (.ref 50)], [.int (7 : Int32), .int ((I 50 1) + (1 : Int32)), .ref 50], (iq_sh l, I, J, X))) (fun _ => rfl) ?_
  refine iq_G_go (k := 1) (σ' := (10, [some (.ref 50)], [.int (((I 50 1) + (1 : Int32)) - ((I 50 1) + (1 : Int32)) / (7 : Int32) * (7 : Int32)), .ref 50], (iq_sh l, I, J, X))) (fun _ => rfl) ?_
  refine iq_G_go (k := 1) (σ' := (13, [some (.ref 50)], [], (iq_sh l, (iq_upI I 50 1 (((I 50 1) + (1 : Int32)) - ((I 50 1) + (1 : Int32)) / (7 : Int32) * (7 : Int32))), J, X))) (fun _ => rfl) ?_
  obtain ⟨I1, eI1, h⟩ := ir_letG h
  rw [← eI1]
  clear eI1
  cases h
  exact iq_G_ret (fun _ => rfl)
set_option maxRecDepth 100000 in
theorem zH_playSeason_132_ok (l : Nat)  (x3 : Int32) (x4 : Int32) (x5 : Int32) (x6 : Int32) (I : iq_I) (J : iq_J) (X : iq_X)  {q : (Int32 × Int32 × Int32 × iq_I) ⊕ (Int32 × iq_I)} (h : zH_playSeason_132 x3 x4 x5 x6 I = some q) (r : iq_R × iq_M) (hc : ∀ v, q = .inl v → iq_Gg 5 31 (31, [some (.ref 69), some (.ref 50), none, some (.int x3), some (.int v.1), some (.int v.2.1), some (.int v.2.2.1), none, none, none, none], [], (iq_sh l, v.2.2.2, J, X)) r) (hx : ∀ w, q = .inr w → iq_Gg 5 31 (142, [none, none, none, none, some (.int w.1), none, none, none, none, none, none], [], (iq_sh l, w.2, J, X)) r) : iq_Gg 5 31 (132, [some (.ref 69), some (.ref 50), none, some (.int x3), some (.int x4), some (.int x5), some (.int x6), none, none, none, none], [], (iq_sh l, I, J, X)) r := by
  unfold zH_playSeason_132 at h
  refine iq_G_go (k := 1) (σ' := (133, [some (.ref 69), some (.ref 50), none, some (.int x3), some (.int x4), some (.int x5), some (.int x6), none, none, none, none], [.ref 50], (iq_sh l, I, J, X))) (fun _ => rfl) ?_
  obtain ⟨q6, hq6, h⟩ := iq_bnd h
  refine iq_G_call (σ' := (136, [some (.ref 69), some (.ref 50), none, some (.int x3), some (.int x4), some (.int x5), some (.int x6), none, none, none, none], [], (iq_sh l, q6, J, X))) (fun _ => rfl) (zG_nextDay_50_ok l  I J X hq6) rfl rfl ?_
  refine iq_G_go (k := 2) (σ' := (31, [some (.ref 69), some (.ref 50), none, some (.int x3), some (.int x4), some (.int x5), some (.int (x6 + (1 : Int32))), none, none, none, none], [], (iq_sh l, q6, J, X))) (fun _ => rfl) ?_
  cases h
  exact iq_G_fg (L := [some (.ref 69), some (.ref 50), none, some (.int x3), some (.int x4), some (.int x5), some (.int (x6 + (1 : Int32))), none, none, none, none]) (And.intro rfl (And.intro rfl (And.intro rfl (And.intro rfl (And.intro rfl (And.intro rfl trivial)))))) (hc (x4, x5, (x6 + (1 : Int32)), q6) rfl)
set_option maxRecDepth 100000 in
theorem zH_playSeason_l31_bok (l : Nat)  (x3 : Int32) (J : iq_J) (X : iq_X) (x4 : Int32) (x5 : Int32) (x6 : Int32) (I : iq_I) {q : (Int32 × Int32 × Int32 × iq_I) ⊕ (Int32 × iq_I)} (h : zH_playSeason_l31_b x3 x4 x5 x6 I = some q) (r : iq_R × iq_M) (hc : ∀ v, q = .inl v → iq_Gg 5 31 (31, [some (.ref 69), some (.ref 50), none, some (.int x3), some (.int v.1), some (.int v.2.1), some (.int v.2.2.1), none, none, none, none], [], (iq_sh l, v.2.2.2, J, X)) r) (hx : ∀ w, q = .inr w → iq_Gg 5 31 (142, [none, none, none, none, some (.int w.1), none, none, none, none, none, none], [], (iq_sh l, w.2, J, X)) r) : iq_Gg 5 31 (31, [some (.ref 69), some (.ref 50), none, some (.int x3), some (.int x4), some (.int x5), some (.int x6), none, none, none, none], [], (iq_sh l, I, J, X)) r := by
  unfold zH_playSeason_l31_b at h
  refine iq_G_go (k := 2) (σ' := (34, [some (.ref 69), some (.ref 50), none, some (.int x3), some (.int x4), some (.int x5), some (.int x6), none, none, none, none], [.int x3, .int x6], (iq_sh l, I, J, X))) (fun _ => rfl) ?_
  rcases iq_ite h with ⟨hc_, h⟩ | ⟨hc_, h⟩
  · refine iq_G_pos (c := x3 ≤ x6) (σ1 := (142, [some (.ref 69), some (.ref 50), none, some (.int x3), some (.int x4), some (.int x5), some (.int x6), none, none, none, none], [], (iq_sh l, I, J, X))) (fun _ => rfl) hc_ ?_
    cases h
    exact iq_G_fg (L := [none, none, none, none, some (.int x4), none, none, none, none, none, none]) (And.intro rfl trivial) (hx (x4, I) rfl)
  · refine iq_G_neg (c := x3 ≤ x6) (σ1 := (37, [some (.ref 69), some (.ref 50), none, some (.int x3), some (.int x4), some (.int x5), some (.int x6), none, none, none, none], [], (iq_sh l, I, J, X))) (fun _ => rfl) hc_ ?_
    refine iq_G_go (k := 1) (σ' := (39, [some (.ref 69), some (.ref 50), none, some (.int x3), some (.int x4), some (.int x5), some (.int x6), none, none, none, none], [.int x5], (iq_sh l, I, J, X))) (fun _ => rfl) ?_
    obtain ⟨q1, hq1, h⟩ := iq_bnd h
    refine iq_G_call (σ' := (42, [some (.ref 69), some (.ref 50), none, some (.int x3), some (.int x4), some (.int x5), some (.int x6), none, none, none, none], [.int q1], (iq_sh l, I, J, X))) (fun _ => rfl) (zH_nextSeed_ok l x5 I J X hq1) rfl rfl ?_
    refine iq_G_go (k := 4) (σ' := (50, [some (.ref 69), some (.ref 50), none, some (.int x3), some (.int x4), some (.int q1), some (.int x6), none, none, none, none], [.int (I 50 0), .int q1], (iq_sh l, I, J, X))) (fun _ => rfl) ?_
    obtain ⟨q2, hq2, h⟩ := iq_bnd h
    refine iq_G_call (σ' := (53, [some (.ref 69), some (.ref 50), none, some (.int x3), some (.int x4), some (.int q1), some (.int x6), none, none, none, none], [.int q2], (iq_sh l, I, J, X))) (fun _ => rfl) (zH_draw_ok l q1 (I 50 0) I J X hq2) rfl rfl ?_
    refine iq_G_go (k := 2) (σ' := (57, [some (.ref 69), some (.ref 50), none, some (.int x3), some (.int x4), some (.int q1), some (.int x6), some (.int q2), none, none, none], [.int q1], (iq_sh l, I, J, X))) (fun _ => rfl) ?_
    obtain ⟨q3, hq3, h⟩ := iq_bnd h
    refine iq_G_call (σ' := (60, [some (.ref 69), some (.ref 50), none, some (.int x3), some (.int x4), some (.int q1), some (.int x6), some (.int q2), none, none, none], [.int q3], (iq_sh l, I, J, X))) (fun _ => rfl) (zH_nextSeed_ok l q1 I J X hq3) rfl rfl ?_
    refine iq_G_go (k := 6) (σ' := (74, [some (.ref 69), some (.ref 50), none, some (.int x3), some (.int x4), some (.int q3), some (.int x6), some (.int q2), none, none, none], [.int (I 8 0), .int q3], (iq_sh l, I, J, X))) (fun _ => rfl) ?_
    obtain ⟨q4, hq4, h⟩ := iq_bnd h
    refine iq_G_call (σ' := (77, [some (.ref 69), some (.ref 50), none, some (.int x3), some (.int x4), some (.int q3), some (.int x6), some (.int q2), none, none, none], [.int q4], (iq_sh l, I, J, X))) (fun _ => rfl) (zH_draw_ok l q3 (I 8 0) I J X hq4) rfl rfl ?_
    refine iq_G_go (k := 5) (σ' := (85, [some (.ref 69), some (.ref 50), none, some (.int x3), some (.int x4), some (.int q3), some (.int x6), some (.int q2), some (.int q4), none, none], [.int q2, .int q4, .ref 50, .ref 69], (iq_sh l, I, J, X))) (fun _ => rfl) ?_
    obtain ⟨q5, hq5, h⟩ := iq_bnd h
    refine iq_G_call (σ' := (88, [some (.ref 69), some (.ref 50), none, some (.int x3), some (.int x4), some (.int q3), some (.int x6), some (.int q2), some (.int q4), none, none], [.int q5.1], (iq_sh l, q5.2, J, X))) (fun _ => rfl) (zH_weigh_69_50_ok l q4 q2 I J X hq5) rfl rfl ?_
    refine iq_G_go (k := 2) (σ' := (92, [some (.ref 69), some (.ref 50), none, some (.int x3), some (.int x4), some (.int q3), some (.int x6), some (.int q2), some (.int q4), some (.int q5.1), none], [.int q5.1], (iq_sh l, q5.2, J, X))) (fun _ => rfl) ?_
    rcases iq_ite h with ⟨hc_, h⟩ | ⟨hc_, h⟩
    · refine iq_G_pos (c := q5.1 ≤ 0) (σ1 := (132, [some (.ref 69), some (.ref 50), none, some (.int x3), some (.int x4), some (.int q3), some (.int x6), some (.int q2), some (.int q4), some (.int q5.1), none], [], (iq_sh l, q5.2, J, X))) (fun _ => rfl) hc_ ?_
      exact iq_G_fg (L := [some (.ref 69), some (.ref 50), none, some (.int x3), some (.int x4), some (.int q3), some (.int x6), none, none, none, none]) (And.intro rfl (And.intro rfl (And.intro rfl (And.intro rfl (And.intro rfl (And.intro rfl trivial)))))) (zH_playSeason_132_ok l x3 x4 q3 x6 q5.2 J X  h r hc hx)
    · refine iq_G_neg (c := q5.1 ≤ 0) (σ1 := (95, [some (.ref 69), some (.ref 50), none, some (.int x3), some (.int x4), some (.int q3), some (.int x6), some (.int q2), some (.int q4), some (.int q5.1), none], [], (iq_sh l, q5.2, J, X))) (fun _ => rfl) hc_ ?_
      refine iq_G_go (k := 1) (σ' := (97, [some (.ref 69), some (.ref 50), none, some (.int x3), some (.int x4), some (.int q3), some (.int x6), some (.int q2), some (.int q4), some (.int q5.1), none], [.int q3], (iq_sh l, q5.2, J, X))) (fun _ => rfl) ?_
      obtain ⟨q7, hq7, h⟩ := iq_bnd h
      refine iq_G_call (σ' := (100, [some (.ref 69), some (.ref 50), none, some (.int x3), some (.int x4), some (.int q3), some (.int x6), some (.int q2), some (.int q4), some (.int q5.1), none], [.int q7], (iq_sh l, q5.2, J, X))) (fun _ => rfl) (zH_nextSeed_ok l q3 q5.2 J X hq7) rfl rfl ?_
      refine iq_G_go (k := 4) (σ' := (107, [some (.ref 69), some (.ref 50), none, some (.int x3), some (.int x4), some (.int q7), some (.int x6), some (.int q2), some (.int q4), some (.int q5.1), none], [.int q5.1, .int q7, .ref 69], (iq_sh l, q5.2, J, X))) (fun _ => rfl) ?_
      obtain ⟨q8, hq8, h⟩ := iq_bnd h
      refine iq_G_call (σ' := (110, [some (.ref 69), some (.ref 50), none, some (.int x3), some (.int x4), some (.int q7), some (.int x6), some (.int q2), some (.int q4), some (.int q5.1), none], [.int q8, .ref 69], (iq_sh l, q5.2, J, X))) (fun _ => rfl) (zH_draw_ok l q7 q5.1 q5.2 J X hq8) rfl rfl ?_
      obtain ⟨q9, hq9, h⟩ := iq_bnd h
      refine iq_G_call (σ' := (113, [some (.ref 69), some (.ref 50), none, some (.int x3), some (.int x4), some (.int q7), some (.int x6), some (.int q2), some (.int q4), some (.int q5.1), none], [.int q9], (iq_sh l, q5.2, J, X))) (fun _ => rfl) (zH_wordAtWeight_ok l q8 q5.2 J X hq9) rfl rfl ?_
      refine iq_G_go (k := 5) (σ' := (121, [some (.ref 69), some (.ref 50), none, some (.int x3), some (.int x4), some (.int q7), some (.int x6), some (.int q2), some (.int q4), some (.int q5.1), some (.int q9)], [.int q2, .ref 50, .int q2, .ref 50], (iq_sh l, q5.2, J, X))) (fun _ => rfl) ?_
      obtain ⟨q10, hq10, h⟩ := iq_bnd h
      refine iq_G_call (σ' := (124, [some (.ref 69), some (.ref 50), none, some (.int x3), some (.int x4), some (.int q7), some (.int x6), some (.int q2), some (.int q4), some (.int q5.1), some (.int q9)], [.int q10, .int q2, .ref 50], (iq_sh l, q5.2, J, X))) (fun _ => rfl) (zG_lengthOf_50_ok l q2 q5.2 J X hq10) rfl rfl ?_
      refine iq_G_go (k := 1) (σ' := (126, [some (.ref 69), some (.ref 50), none, some (.int x3), some (.int x4), some (.int q7), some (.int x6), some (.int q2), some (.int q4), some (.int q5.1), some (.int q9)], [.int q9, .int q10, .int q2, .ref 50], (iq_sh l, q5.2, J, X))) (fun _ => rfl) ?_
      obtain ⟨q11, hq11, h⟩ := iq_bnd h
      refine iq_G_call (σ' := (129, [some (.ref 69), some (.ref 50), none, some (.int x3), some (.int x4), some (.int q7), some (.int x6), some (.int q2), some (.int q4), some (.int q5.1), some (.int q9)], [], (iq_sh l, q11, J, X))) (fun _ => rfl) (zG_putIn_50_ok l q2 q10 q9 q5.2 J X hq11) rfl rfl ?_
      refine iq_G_go (k := 1) (σ' := (132, [some (.ref 69), some (.ref 50), none, some (.int x3), some (.int (x4 + (1 : Int32))), some (.int q7), some (.int x6), some (.int q2), some (.int q4), some (.int q5.1), some (.int q9)], [], (iq_sh l, q11, J, X))) (fun _ => rfl) ?_
      exact iq_G_fg (L := [some (.ref 69), some (.ref 50), none, some (.int x3), some (.int (x4 + (1 : Int32))), some (.int q7), some (.int x6), none, none, none, none]) (And.intro rfl (And.intro rfl (And.intro rfl (And.intro rfl (And.intro rfl (And.intro rfl trivial)))))) (zH_playSeason_132_ok l x3 (x4 + (1 : Int32)) q7 x6 q11 J X  h r hc hx)
set_option maxRecDepth 100000 in
theorem zH_playSeason_l31_ok (l : Nat)  (x3 : Int32) (J : iq_J) (X : iq_X) {n : Nat} {v : Int32 × Int32 × Int32 × iq_I} {w : Int32 × iq_I} (h : zH_playSeason_l31 x3 n v = some w) (r : iq_R × iq_M) (hq : iq_Gg 5 31 (142, [none, none, none, none, some (.int w.1), none, none, none, none, none, none], [], (iq_sh l, w.2, J, X)) r) : iq_Gg 5 31 (31, [some (.ref 69), some (.ref 50), none, some (.int x3), some (.int v.1), some (.int v.2.1), some (.int v.2.2.1), none, none, none, none], [], (iq_sh l, v.2.2.2, J, X)) r :=
  iq_lp_ok (σ := fun v => (31, [some (.ref 69), some (.ref 50), none, some (.int x3), some (.int v.1), some (.int v.2.1), some (.int v.2.2.1), none, none, none, none], [], (iq_sh l, v.2.2.2, J, X))) (Q := fun w r => iq_Gg 5 31 (142, [none, none, none, none, some (.int w.1), none, none, none, none, none, none], [], (iq_sh l, w.2, J, X)) r) (fun v q hv r h1 h2 => zH_playSeason_l31_bok l x3 J X v.1 v.2.1 v.2.2.1 v.2.2.2 hv r h1 h2) h r hq
set_option maxRecDepth 100000 in
theorem zH_playSeason_ok (l : Nat)  (x2 : Int32) (x3 : Int32) (I : iq_I) (J : iq_J) (X : iq_X) {q : Int32 × iq_I} (h : zH_playSeason x2 x3 I = some q) : iq_Cc 6 31 [.ref 69, .ref 50, .int x2, .int x3] (iq_sh l, I, J, X) (.inl (some (.int q.1)), (iq_sh l, q.2, J, X)) := by
  refine iq_Cc_of (L := [some (.ref 69), some (.ref 50), some (.int x2), some (.int x3), none, none, none, none, none, none, none]) rfl rfl ?_
  unfold zH_playSeason at h
  refine iq_G_go (k := 2) (σ' := (4, [some (.ref 69), some (.ref 50), some (.int x2), some (.int x3), none, none, none, none, none, none, none], [.int (I 50 0)], (iq_sh l, I, J, X))) (fun _ => rfl) ?_
  rcases iq_ite h with ⟨hc_, h⟩ | ⟨hc_, h⟩
  · refine iq_G_pos (c := (I 50 0) ≤ 0) (σ1 := (20, [some (.ref 69), some (.ref 50), some (.int x2), some (.int x3), none, none, none, none, none, none, none], [], (iq_sh l, I, J, X))) (fun _ => rfl) hc_ ?_
    refine iq_G_go (k := 1) (σ' := (21, [some (.ref 69), some (.ref 50), some (.int x2), some (.int x3), none, none, none, none, none, none, none], [.int (0 : Int32)], (iq_sh l, I, J, X))) (fun _ => rfl) ?_
    cases h
    exact iq_G_ret (fun _ => rfl)
  · refine iq_G_neg (c := (I 50 0) ≤ 0) (σ1 := (7, [some (.ref 69), some (.ref 50), some (.int x2), some (.int x3), none, none, none, none, none, none, none], [], (iq_sh l, I, J, X))) (fun _ => rfl) hc_ ?_
    refine iq_G_go (k := 4) (σ' := (17, [some (.ref 69), some (.ref 50), some (.int x2), some (.int x3), none, none, none, none, none, none, none], [.int (I 8 0)], (iq_sh l, I, J, X))) (fun _ => rfl) ?_
    rcases iq_ite h with ⟨hc_, h⟩ | ⟨hc_, h⟩
    · refine iq_G_pos (c := 0 < (I 8 0)) (σ1 := (22, [some (.ref 69), some (.ref 50), some (.int x2), some (.int x3), none, none, none, none, none, none, none], [], (iq_sh l, I, J, X))) (fun _ => rfl) hc_ ?_
      refine iq_G_go (k := 6) (σ' := (31, [some (.ref 69), some (.ref 50), some (.int x2), some (.int x3), some (.int (0 : Int32)), some (.int x2), some (.int (0 : Int32)), none, none, none, none], [], (iq_sh l, I, J, X))) (fun _ => rfl) ?_
      obtain ⟨w12, hw12, h⟩ := iq_bnd h
      refine iq_G_fg (L := [some (.ref 69), some (.ref 50), none, some (.int x3), some (.int (0 : Int32)), some (.int x2), some (.int (0 : Int32)), none, none, none, none]) (And.intro rfl (And.intro rfl (And.intro rfl (And.intro rfl (And.intro rfl (And.intro rfl trivial)))))) ?_
      refine zH_playSeason_l31_ok l x3 J X hw12 _ ?_
      show iq_Gg 5 31 (142, [none, none, none, none, some (.int w12.1), none, none, none, none, none, none], [], (iq_sh l, w12.2, J, X)) _
      refine iq_G_go (k := 1) (σ' := (144, [none, none, none, none, some (.int w12.1), none, none, none, none, none, none], [.int w12.1], (iq_sh l, w12.2, J, X))) (fun _ => rfl) ?_
      cases h
      exact iq_G_ret (fun _ => rfl)
    · refine iq_G_neg (c := 0 < (I 8 0)) (σ1 := (20, [some (.ref 69), some (.ref 50), some (.int x2), some (.int x3), none, none, none, none, none, none, none], [], (iq_sh l, I, J, X))) (fun _ => rfl) hc_ ?_
      refine iq_G_go (k := 1) (σ' := (21, [some (.ref 69), some (.ref 50), some (.int x2), some (.int x3), none, none, none, none, none, none, none], [.int (0 : Int32)], (iq_sh l, I, J, X))) (fun _ => rfl) ?_
      cases h
      exact iq_G_ret (fun _ => rfl)
set_option maxRecDepth 100000 in
theorem zO_season_20_ok (l : Nat)   (I : iq_I) (J : iq_J) (X : iq_X)  {q : (Int32 ⊕ Nat) × iq_I × iq_X} (h : zO_season_20 I X = some q)  : iq_Gg 6 178 (20, [none, none, none, none, none], [], (iq_sh l, I, J, X)) ((ir_Ri q.1), (iq_sh l, q.2.1, J, q.2.2)) := by
  unfold zO_season_20 at h
  cases h
  exact iq_G_ret (fun _ => rfl)
set_option maxRecDepth 100000 in
theorem zO_season_10_ok (l : Nat)  (x1 : Int32) (x2 : Int32) (x3 : Int32) (I : iq_I) (J : iq_J) (X : iq_X)  {q : (Int32 ⊕ Nat) × iq_I × iq_X} (h : zO_season_10 x1 x2 x3 I X = some q)  : iq_Gg 6 178 (10, [some (.ref 1), some (.int x1), some (.int x2), some (.int x3), none], [], (iq_sh l, I, J, X)) ((ir_Ri q.1), (iq_sh l, q.2.1, J, q.2.2)) := by
  unfold zO_season_10 at h
  refine iq_G_go (k := 1) (σ' := (11, [some (.ref 1), some (.int x1), some (.int x2), some (.int x3), none], [.int x2], (iq_sh l, I, J, X))) (fun _ => rfl) ?_
  rcases iq_ite h with ⟨hc_, h⟩ | ⟨hc_, h⟩
  · refine iq_G_pos (c := x2 < 0) (σ1 := (20, [some (.ref 1), some (.int x1), some (.int x2), some (.int x3), none], [], (iq_sh l, I, J, X))) (fun _ => rfl) hc_ ?_
    exact iq_G_fg (L := [none, none, none, none, none]) trivial (zO_season_20_ok l I J X  h )
  · refine iq_G_neg (c := x2 < 0) (σ1 := (14, [some (.ref 1), some (.int x1), some (.int x2), some (.int x3), none], [], (iq_sh l, I, J, X))) (fun _ => rfl) hc_ ?_
    refine iq_G_go (k := 2) (σ' := (17, [some (.ref 1), some (.int x1), some (.int x2), some (.int x3), none], [.int (60 : Int32), .int x2], (iq_sh l, I, J, X))) (fun _ => rfl) ?_
    rcases iq_ite h with ⟨hc_, h⟩ | ⟨hc_, h⟩
    · refine iq_G_pos (c := x2 ≤ (60 : Int32)) (σ1 := (31, [some (.ref 1), some (.int x1), some (.int x2), some (.int x3), none], [], (iq_sh l, I, J, X))) (fun _ => rfl) hc_ ?_
      refine iq_G_go (k := 4) (σ' := (39, [some (.ref 1), some (.int x1), some (.int x2), some (.int x3), none], [.ref 16, .ref 50], (iq_sh l, I, J, X))) (fun _ => rfl) ?_
      obtain ⟨q1, hq1, h⟩ := iq_bnd h
      refine iq_G_call (σ' := (42, [some (.ref 1), some (.int x1), some (.int x2), some (.int x3), none], [], (iq_sh l, q1, J, X))) (fun _ => rfl) (zG_copyFrom_50_16_ok l  I J X hq1) rfl rfl ?_
      refine iq_G_go (k := 6) (σ' := (52, [some (.ref 1), some (.int x1), some (.int x2), some (.int x3), none], [.int x2, .int x1, .ref 50, .ref 69], (iq_sh l, q1, J, X))) (fun _ => rfl) ?_
      obtain ⟨q2, hq2, h⟩ := iq_bnd h
      refine iq_G_call (σ' := (55, [some (.ref 1), some (.int x1), some (.int x2), some (.int x3), none], [.int q2.1], (iq_sh l, q2.2, J, X))) (fun _ => rfl) (zH_playSeason_ok l x1 x2 q1 J X hq2) rfl rfl ?_
      refine iq_G_go (k := 3) (σ' := (59, [some (.ref 1), some (.int x1), some (.int x2), some (.int x3), some (.int q2.1)], [.int (-1 : Int32), .int x3], (iq_sh l, q2.2, J, X))) (fun _ => rfl) ?_
      rcases iq_ite h with ⟨hc_, h⟩ | ⟨hc_, h⟩
      · refine iq_G_pos (c := ¬ x3 = (-1 : Int32)) (σ1 := (67, [some (.ref 1), some (.int x1), some (.int x2), some (.int x3), some (.int q2.1)], [], (iq_sh l, q2.2, J, X))) (fun _ => rfl) hc_ ?_
        refine iq_G_go (k := 4) (σ' := (75, [some (.ref 1), some (.int x1), some (.int x2), some (.int x3), some (.int q2.1)], [.int x3, .ref 52], (iq_sh l, q2.2, J, X))) (fun _ => rfl) ?_
        obtain ⟨hc_, h⟩ := iq_itn h
        refine iq_G_pos (c := iq_in x3 5) (σ1 := (76, [some (.ref 1), some (.int x1), some (.int x2), some (.int x3), some (.int q2.1)], [.int (q2.2 52 (Int32.toNatClampNeg x3))], (iq_sh l, q2.2, J, X))) (fun _ => rfl) hc_ ?_
        cases h
        exact iq_G_ret (fun _ => rfl)
      · refine iq_G_neg (c := ¬ x3 = (-1 : Int32)) (σ1 := (62, [some (.ref 1), some (.int x1), some (.int x2), some (.int x3), some (.int q2.1)], [], (iq_sh l, q2.2, J, X))) (fun _ => rfl) hc_ ?_
        refine iq_G_go (k := 2) (σ' := (76, [some (.ref 1), some (.int x1), some (.int x2), some (.int x3), some (.int q2.1)], [.int q2.1], (iq_sh l, q2.2, J, X))) (fun _ => rfl) ?_
        cases h
        exact iq_G_ret (fun _ => rfl)
    · refine iq_G_neg (c := x2 ≤ (60 : Int32)) (σ1 := (20, [some (.ref 1), some (.int x1), some (.int x2), some (.int x3), none], [], (iq_sh l, I, J, X))) (fun _ => rfl) hc_ ?_
      exact iq_G_fg (L := [none, none, none, none, none]) trivial (zO_season_20_ok l I J X  h )
set_option maxRecDepth 100000 in
theorem zO_season_ok (l : Nat)  (x1 : Int32) (x2 : Int32) (x3 : Int32) (I : iq_I) (J : iq_J) (X : iq_X) {q : (Int32 ⊕ Nat) × iq_I × iq_X} (h : zO_season x1 x2 x3 I X = some q) : iq_Cc 7 178 [.ref 1, .int x1, .int x2, .int x3] (iq_sh l, I, J, X) ((ir_Ri q.1), (iq_sh l, q.2.1, J, q.2.2)) := by
  refine iq_Cc_of (L := [some (.ref 1), some (.int x1), some (.int x2), some (.int x3), none]) rfl rfl ?_
  unfold zO_season at h
  refine iq_G_go (k := 2) (σ' := (2, [some (.ref 1), some (.int x1), some (.int x2), some (.int x3), none], [.int (-1 : Int32), .int x3], (iq_sh l, I, J, X))) (fun _ => rfl) ?_
  rcases iq_ite h with ⟨hc_, h⟩ | ⟨hc_, h⟩
  · refine iq_G_pos (c := x3 = (-1 : Int32)) (σ1 := (10, [some (.ref 1), some (.int x1), some (.int x2), some (.int x3), none], [], (iq_sh l, I, J, X))) (fun _ => rfl) hc_ ?_
    exact iq_G_fg (L := [some (.ref 1), some (.int x1), some (.int x2), some (.int x3), none]) (And.intro rfl (And.intro rfl (And.intro rfl (And.intro rfl trivial)))) (zO_season_10_ok l x1 x2 x3 I J X  h )
  · refine iq_G_neg (c := x3 = (-1 : Int32)) (σ1 := (5, [some (.ref 1), some (.int x1), some (.int x2), some (.int x3), none], [], (iq_sh l, I, J, X))) (fun _ => rfl) hc_ ?_
    refine iq_G_go (k := 2) (σ' := (7, [some (.ref 1), some (.int x1), some (.int x2), some (.int x3), none], [.int x3, .ref 1], (iq_sh l, I, J, X))) (fun _ => rfl) ?_
    obtain ⟨q3, hq3, h⟩ := iq_bnd h
    have hC := (zO_needSaying_ok l x3 I J X hq3)
    rcases iq_smc h with ⟨a4, ha, h⟩ | ⟨k5, ha, h⟩
    · rw [ha] at hC
      refine iq_G_call (σ' := (10, [some (.ref 1), some (.int x1), some (.int x2), some (.int x3), none], [], (iq_sh l, I, J, q3.2))) (fun _ => rfl) hC rfl rfl ?_
      exact iq_G_fg (L := [some (.ref 1), some (.int x1), some (.int x2), some (.int x3), none]) (And.intro rfl (And.intro rfl (And.intro rfl (And.intro rfl trivial)))) (zO_season_10_ok l x1 x2 x3 I J q3.2  h )
    · rw [ha] at hC
      cases h
      exact iq_G_callx (fun _ => rfl) hC rfl rfl
set_option maxRecDepth 100000 in
theorem zL_season_ok (l : Nat)  (x1 : Int32) (x2 : Int32) (x3 : Int32) (I : iq_I) (J : iq_J) (X : iq_X) {q : Int32 × iq_I × iq_J × iq_X} (h : zL_season x1 x2 x3 I J X = some q) : iq_Cc 8 347 [.ref 1, .int x1, .int x2, .int x3, .ref 114] (iq_sh l, I, J, X) (.inl (some (.int q.1)), (iq_sh l, q.2.1, q.2.2.1, q.2.2.2)) := by
  refine iq_Cc_of (L := [some (.ref 1), some (.int x1), some (.int x2), some (.int x3), some (.ref 114), none]) rfl rfl ?_
  unfold zL_season at h
  refine iq_G_go (k := 6) (σ' := (7, [some (.ref 1), some (.int x1), some (.int x2), some (.int x3), some (.ref 114), none], [.int x3, .int x2, .int x1, .ref 1, .int (0 : Int32), .ref 114], (iq_sh l, I, J, X))) (fun _ => rfl) ?_
  obtain ⟨q1, hq1, h⟩ := iq_bnd h
  have hC := (zO_season_ok l x1 x2 x3 I J X hq1)
  rcases iq_smc h with ⟨a2, ha, h⟩ | ⟨k3, ha, h⟩
  · rw [ha] at hC
    refine iq_G_call (σ' := (10, [some (.ref 1), some (.int x1), some (.int x2), some (.int x3), some (.ref 114), none], [.int a2, .int (0 : Int32), .ref 114], (iq_sh l, q1.2.1, J, q1.2.2))) (fun _ => rfl) hC rfl rfl ?_
    refine iq_G_go (k := 1) (σ' := (11, [some (.ref 1), some (.int x1), some (.int x2), some (.int x3), some (.ref 114), none], [.long (Int32.toInt64 a2), .int (0 : Int32), .ref 114], (iq_sh l, q1.2.1, J, q1.2.2))) (fun _ => rfl) ?_
    refine iq_G_go (k := 1) (σ' := (12, [some (.ref 1), some (.int x1), some (.int x2), some (.int x3), some (.ref 114), none], [], (iq_sh l, q1.2.1, (iq_upJ J 114 0 (Int32.toInt64 a2)), q1.2.2))) (fun _ => rfl) ?_
    obtain ⟨J4, eJ4, h⟩ := ir_letG h
    rw [← eJ4]
    clear eJ4
    refine iq_G_go (k := 2) (σ' := (24, [some (.ref 1), some (.int x1), some (.int x2), some (.int x3), some (.ref 114), none], [.int (0 : Int32)], (iq_sh l, q1.2.1, J4, q1.2.2))) (fun _ => rfl) ?_
    cases h
    exact iq_G_ret (fun _ => rfl)
  · rw [ha] at hC
    rcases iq_ite h with ⟨e, h⟩ | ⟨_, h⟩
    · subst e
      refine iq_G_call (σ' := (17, [some (.ref 1), some (.int x1), some (.int x2), some (.int x3), some (.ref 114), none], [], (iq_sh l, q1.2.1, J, q1.2.2))) (fun _ => rfl) hC rfl rfl ?_
      refine iq_G_go (k := 1) (σ' := (18, [some (.ref 1), some (.int x1), some (.int x2), some (.int x3), some (.ref 114), none], [.int (1 : Int32)], (iq_sh l, q1.2.1, J, q1.2.2))) (fun _ => rfl) ?_
      cases h
      exact iq_G_ret (fun _ => rfl)
    · obtain ⟨e, h⟩ := iq_itn h
      subst e
      refine iq_G_call (σ' := (21, [some (.ref 1), some (.int x1), some (.int x2), some (.int x3), some (.ref 114), none], [], (iq_sh l, q1.2.1, J, q1.2.2))) (fun _ => rfl) hC rfl rfl ?_
      refine iq_G_go (k := 1) (σ' := (22, [some (.ref 1), some (.int x1), some (.int x2), some (.int x3), some (.ref 114), none], [.int (2 : Int32)], (iq_sh l, q1.2.1, J, q1.2.2))) (fun _ => rfl) ?_
      cases h
      exact iq_G_ret (fun _ => rfl)
set_option maxRecDepth 100000 in
theorem zM_copies_76_98_99_l2_bok (l : Nat)   (J : iq_J) (X : iq_X) (x3 : Int32) (I : iq_I) {q : (Int32 × iq_I) ⊕ (iq_I)} (h : zM_copies_76_98_99_l2_b  x3 I = some q) (r : iq_R × iq_M) (hc : ∀ v, q = .inl v → iq_Gg 0 203 (2, [none, some (.ref 98), some (.ref 99), some (.int v.1)], [], (iq_sh l, v.2, J, X)) r) (hx : ∀ w, q = .inr w → iq_Gg 0 203 (20, [none, none, none, none], [], (iq_sh l, w, J, X)) r) : iq_Gg 0 203 (2, [none, some (.ref 98), some (.ref 99), some (.int x3)], [], (iq_sh l, I, J, X)) r := by
  unfold zM_copies_76_98_99_l2_b at h
  refine iq_G_go (k := 3) (σ' := (5, [none, some (.ref 98), some (.ref 99), some (.int x3)], [.int (206 : Int32), .int x3], (iq_sh l, I, J, X))) (fun _ => rfl) ?_
  rcases iq_ite h with ⟨hc_, h⟩ | ⟨hc_, h⟩
  · refine iq_G_pos (c := (206 : Int32) ≤ x3) (σ1 := (20, [none, some (.ref 98), some (.ref 99), some (.int x3)], [], (iq_sh l, I, J, X))) (fun _ => rfl) hc_ ?_
    cases h
    exact iq_G_fg (L := [none, none, none, none]) trivial (hx I rfl)
  · refine iq_G_neg (c := (206 : Int32) ≤ x3) (σ1 := (8, [none, some (.ref 98), some (.ref 99), some (.int x3)], [], (iq_sh l, I, J, X))) (fun _ => rfl) hc_ ?_
    refine iq_G_go (k := 4) (σ' := (12, [none, some (.ref 98), some (.ref 99), some (.int x3)], [.int x3, .ref 98, .int x3, .ref 99], (iq_sh l, I, J, X))) (fun _ => rfl) ?_
    obtain ⟨hc_, h⟩ := iq_itn h
    refine iq_G_pos (c := iq_in x3 206) (σ1 := (13, [none, some (.ref 98), some (.ref 99), some (.int x3)], [.int (I 98 (Int32.toNatClampNeg x3)), .int x3, .ref 99], (iq_sh l, I, J, X))) (fun _ => rfl) hc_ ?_
    obtain ⟨hc_, h⟩ := iq_itn h
    refine iq_G_pos (c := iq_in x3 206) (σ1 := (14, [none, some (.ref 98), some (.ref 99), some (.int x3)], [], (iq_sh l, (iq_upI I 99 (Int32.toNatClampNeg x3) (I 98 (Int32.toNatClampNeg x3))), J, X))) (fun _ => rfl) hc_ ?_
    obtain ⟨I1, eI1, h⟩ := ir_letG h
    rw [← eI1]
    clear eI1
    refine iq_G_go (k := 2) (σ' := (2, [none, some (.ref 98), some (.ref 99), some (.int (x3 + (1 : Int32)))], [], (iq_sh l, I1, J, X))) (fun _ => rfl) ?_
    cases h
    exact iq_G_fg (L := [none, some (.ref 98), some (.ref 99), some (.int (x3 + (1 : Int32)))]) (And.intro rfl (And.intro rfl (And.intro rfl trivial))) (hc ((x3 + (1 : Int32)), I1) rfl)
set_option maxRecDepth 100000 in
theorem zM_copies_76_98_99_l2_ok (l : Nat)   (J : iq_J) (X : iq_X) {n : Nat} {v : Int32 × iq_I} {w : iq_I} (h : zM_copies_76_98_99_l2  n v = some w) (r : iq_R × iq_M) (hq : iq_Gg 0 203 (20, [none, none, none, none], [], (iq_sh l, w, J, X)) r) : iq_Gg 0 203 (2, [none, some (.ref 98), some (.ref 99), some (.int v.1)], [], (iq_sh l, v.2, J, X)) r :=
  iq_lp_ok (σ := fun v => (2, [none, some (.ref 98), some (.ref 99), some (.int v.1)], [], (iq_sh l, v.2, J, X))) (Q := fun w r => iq_Gg 0 203 (20, [none, none, none, none], [], (iq_sh l, w, J, X)) r) (fun v q hv r h1 h2 => zM_copies_76_98_99_l2_bok l J X v.1 v.2 hv r h1 h2) h r hq
set_option maxRecDepth 100000 in
theorem zM_copies_76_98_99_ok (l : Nat)   (I : iq_I) (J : iq_J) (X : iq_X) {q : iq_I} (h : zM_copies_76_98_99 I = some q) : iq_Cc 1 203 [.ref 76, .ref 98, .ref 99] (iq_sh l, I, J, X) (.inl none, (iq_sh l, q, J, X)) := by
  refine iq_Cc_of (L := [some (.ref 76), some (.ref 98), some (.ref 99), none]) rfl rfl ?_
  unfold zM_copies_76_98_99 at h
  refine iq_G_go (k := 2) (σ' := (2, [some (.ref 76), some (.ref 98), some (.ref 99), some (.int (0 : Int32))], [], (iq_sh l, I, J, X))) (fun _ => rfl) ?_
  obtain ⟨w2, hw2, h⟩ := iq_bnd h
  refine iq_G_fg (L := [none, some (.ref 98), some (.ref 99), some (.int (0 : Int32))]) (And.intro rfl (And.intro rfl (And.intro rfl trivial))) ?_
  refine zM_copies_76_98_99_l2_ok l J X hw2 _ ?_
  show iq_Gg 0 203 (20, [none, none, none, none], [], (iq_sh l, w2, J, X)) _
  cases h
  exact iq_G_ret (fun _ => rfl)
set_option maxRecDepth 100000 in
theorem zM_draw_ok (l : Nat)  (x1 : Int32) (I : iq_I) (J : iq_J) (X : iq_X) {q : Int32 × iq_I} (h : zM_draw x1 I = some q) : iq_Cc 1 307 [.ref 76, .int x1] (iq_sh l, I, J, X) (.inl (some (.int q.1)), (iq_sh l, q.2, J, X)) := by
  refine iq_Cc_of (L := [some (.ref 76), some (.int x1)]) rfl rfl ?_
  unfold zM_draw at h
  refine iq_G_go (k := 7) (σ' := (13, [some (.ref 76), some (.int x1)], [.int (((I 76 67) * (1103515245 : Int32)) + (12345 : Int32)), .ref 76], (iq_sh l, I, J, X))) (fun _ => rfl) ?_
  refine iq_G_go (k := 1) (σ' := (16, [some (.ref 76), some (.int x1)], [], (iq_sh l, (iq_upI I 76 67 (((I 76 67) * (1103515245 : Int32)) + (12345 : Int32))), J, X))) (fun _ => rfl) ?_
  obtain ⟨I1, eI1, h⟩ := ir_letG h
  rw [← eI1]
  clear eI1
  refine iq_G_go (k := 7) (σ' := (28, [some (.ref 76), some (.int x1)], [.int x1, .int (((I1 76 67) >>> ((16 : Int32) &&& 31)) &&& (32767 : Int32))], (iq_sh l, I1, J, X))) (fun _ => rfl) ?_
  obtain ⟨hc_, h⟩ := ir_nti h
  refine iq_G_neg (c := x1 = 0) (σ1 := (29, [some (.ref 76), some (.int x1)], [.int ((((I1 76 67) >>> ((16 : Int32) &&& 31)) &&& (32767 : Int32)) - (((I1 76 67) >>> ((16 : Int32) &&& 31)) &&& (32767 : Int32)) / x1 * x1)], (iq_sh l, I1, J, X))) (fun _ => rfl) hc_ ?_
  cases h
  exact iq_G_ret (fun _ => rfl)
set_option maxRecDepth 100000 in
theorem zM_wordAt_76_99_ok (l : Nat)  (x2 : Int32) (x3 : Int32) (I : iq_I) (J : iq_J) (X : iq_X) {q : Int32} (h : zM_wordAt_76_99 x2 x3 I = some q) : iq_Cc 1 243 [.ref 76, .ref 99, .int x2, .int x3] (iq_sh l, I, J, X) (.inl (some (.int q)), (iq_sh l, I, J, X)) := by
  refine iq_Cc_of (L := [some (.ref 76), some (.ref 99), some (.int x2), some (.int x3)]) rfl rfl ?_
  unfold zM_wordAt_76_99 at h
  refine iq_G_go (k := 8) (σ' := (10, [some (.ref 76), some (.ref 99), some (.int x2), some (.int x3)], [.int (((6 : Int32) + ((40 : Int32) * x2)) + x3), .ref 99], (iq_sh l, I, J, X))) (fun _ => rfl) ?_
  obtain ⟨hc_, h⟩ := iq_itn h
  refine iq_G_pos (c := iq_in (((6 : Int32) + ((40 : Int32) * x2)) + x3) 206) (σ1 := (11, [some (.ref 76), some (.ref 99), some (.int x2), some (.int x3)], [.int (I 99 (Int32.toNatClampNeg (((6 : Int32) + ((40 : Int32) * x2)) + x3)))], (iq_sh l, I, J, X))) (fun _ => rfl) hc_ ?_
  cases h
  exact iq_G_ret (fun _ => rfl)
set_option maxRecDepth 100000 in
theorem zM_stateOf_76_99_l6_bok (l : Nat)  (x2 : Int32) (x4 : Int32) (I : iq_I) (J : iq_J) (X : iq_X) (x5 : Int32) (x6 : Int32)  {q : (Int32 × Int32) ⊕ (Int32)} (h : zM_stateOf_76_99_l6_b x2 x4 I x5 x6 = some q) (r : iq_R × iq_M) (hc : ∀ v, q = .inl v → iq_Gg 1 245 (6, [some (.ref 76), some (.ref 99), some (.int x2), none, some (.int x4), some (.int v.1), some (.int v.2)], [], (iq_sh l, I, J, X)) r) (hx : ∀ w, q = .inr w → iq_Gg 1 245 (49, [none, none, none, none, none, some (.int w), none], [], (iq_sh l, I, J, X)) r) : iq_Gg 1 245 (6, [some (.ref 76), some (.ref 99), some (.int x2), none, some (.int x4), some (.int x5), some (.int x6)], [], (iq_sh l, I, J, X)) r := by
  unfold zM_stateOf_76_99_l6_b at h
  refine iq_G_go (k := 3) (σ' := (10, [some (.ref 76), some (.ref 99), some (.int x2), none, some (.int x4), some (.int x5), some (.int x6)], [.int x2, .ref 99, .int x6], (iq_sh l, I, J, X))) (fun _ => rfl) ?_
  obtain ⟨hc_, h⟩ := iq_itn h
  refine iq_G_pos (c := iq_in x2 206) (σ1 := (11, [some (.ref 76), some (.ref 99), some (.int x2), none, some (.int x4), some (.int x5), some (.int x6)], [.int (I 99 (Int32.toNatClampNeg x2)), .int x6], (iq_sh l, I, J, X))) (fun _ => rfl) hc_ ?_
  rcases iq_ite h with ⟨hc_, h⟩ | ⟨hc_, h⟩
  · refine iq_G_pos (c := (I 99 (Int32.toNatClampNeg x2)) ≤ x6) (σ1 := (49, [some (.ref 76), some (.ref 99), some (.int x2), none, some (.int x4), some (.int x5), some (.int x6)], [], (iq_sh l, I, J, X))) (fun _ => rfl) hc_ ?_
    cases h
    exact iq_G_fg (L := [none, none, none, none, none, some (.int x5), none]) (And.intro rfl trivial) (hx x5 rfl)
  · refine iq_G_neg (c := (I 99 (Int32.toNatClampNeg x2)) ≤ x6) (σ1 := (14, [some (.ref 76), some (.ref 99), some (.int x2), none, some (.int x4), some (.int x5), some (.int x6)], [], (iq_sh l, I, J, X))) (fun _ => rfl) hc_ ?_
    refine iq_G_go (k := 2) (σ' := (17, [some (.ref 76), some (.ref 99), some (.int x2), none, some (.int x4), some (.int x5), some (.int x6)], [.int (-1 : Int32), .int x5], (iq_sh l, I, J, X))) (fun _ => rfl) ?_
    rcases iq_ite h with ⟨hc_, h⟩ | ⟨hc_, h⟩
    · refine iq_G_pos (c := x5 = (-1 : Int32)) (σ1 := (49, [some (.ref 76), some (.ref 99), some (.int x2), none, some (.int x4), some (.int x5), some (.int x6)], [], (iq_sh l, I, J, X))) (fun _ => rfl) hc_ ?_
      cases h
      exact iq_G_fg (L := [none, none, none, none, none, some (.int x5), none]) (And.intro rfl trivial) (hx x5 rfl)
    · refine iq_G_neg (c := x5 = (-1 : Int32)) (σ1 := (20, [some (.ref 76), some (.ref 99), some (.int x2), none, some (.int x4), some (.int x5), some (.int x6)], [], (iq_sh l, I, J, X))) (fun _ => rfl) hc_ ?_
      refine iq_G_go (k := 2) (σ' := (24, [some (.ref 76), some (.ref 99), some (.int x2), none, some (.int x4), some (.int x5), some (.int x6)], [.int x4, .int x6], (iq_sh l, I, J, X))) (fun _ => rfl) ?_
      rcases iq_ite h with ⟨hc_, h⟩ | ⟨hc_, h⟩
      · refine iq_G_pos (c := x6 = x4) (σ1 := (43, [some (.ref 76), some (.ref 99), some (.int x2), none, some (.int x4), some (.int x5), some (.int x6)], [], (iq_sh l, I, J, X))) (fun _ => rfl) hc_ ?_
        refine iq_G_go (k := 2) (σ' := (6, [some (.ref 76), some (.ref 99), some (.int x2), none, some (.int x4), some (.int x5), some (.int (x6 + (1 : Int32)))], [], (iq_sh l, I, J, X))) (fun _ => rfl) ?_
        cases h
        exact iq_G_fg (L := [some (.ref 76), some (.ref 99), some (.int x2), none, some (.int x4), some (.int x5), some (.int (x6 + (1 : Int32)))]) (And.intro rfl (And.intro rfl (And.intro rfl (And.intro rfl (And.intro rfl (And.intro rfl trivial)))))) (hc (x5, (x6 + (1 : Int32))) rfl)
      · refine iq_G_neg (c := x6 = x4) (σ1 := (27, [some (.ref 76), some (.ref 99), some (.int x2), none, some (.int x4), some (.int x5), some (.int x6)], [], (iq_sh l, I, J, X))) (fun _ => rfl) hc_ ?_
        refine iq_G_go (k := 6) (σ' := (35, [some (.ref 76), some (.ref 99), some (.int x2), none, some (.int x4), some (.int x5), some (.int x6)], [.int x6, .int x2, .ref 99, .ref 76, .int x5, .ref 76], (iq_sh l, I, J, X))) (fun _ => rfl) ?_
        obtain ⟨q1, hq1, h⟩ := iq_bnd h
        refine iq_G_call (σ' := (38, [some (.ref 76), some (.ref 99), some (.int x2), none, some (.int x4), some (.int x5), some (.int x6)], [.int q1, .int x5, .ref 76], (iq_sh l, I, J, X))) (fun _ => rfl) (zM_wordAt_76_99_ok l x2 x6 I J X hq1) rfl rfl ?_
        obtain ⟨q2, hq2, h⟩ := iq_bnd h
        refine iq_G_call (σ' := (41, [some (.ref 76), some (.ref 99), some (.int x2), none, some (.int x4), some (.int x5), some (.int x6)], [.int q2], (iq_sh l, I, J, X))) (fun _ => rfl) (zM_leads_ok l x5 q1 I J X hq2) rfl rfl ?_
        refine iq_G_go (k := 3) (σ' := (6, [some (.ref 76), some (.ref 99), some (.int x2), none, some (.int x4), some (.int q2), some (.int (x6 + (1 : Int32)))], [], (iq_sh l, I, J, X))) (fun _ => rfl) ?_
        cases h
        exact iq_G_fg (L := [some (.ref 76), some (.ref 99), some (.int x2), none, some (.int x4), some (.int q2), some (.int (x6 + (1 : Int32)))]) (And.intro rfl (And.intro rfl (And.intro rfl (And.intro rfl (And.intro rfl (And.intro rfl trivial)))))) (hc (q2, (x6 + (1 : Int32))) rfl)
set_option maxRecDepth 100000 in
theorem zM_stateOf_76_99_l6_ok (l : Nat)  (x2 : Int32) (x4 : Int32) (I : iq_I) (J : iq_J) (X : iq_X) {n : Nat} {v : Int32 × Int32} {w : Int32} (h : zM_stateOf_76_99_l6 x2 x4 I n v = some w) (r : iq_R × iq_M) (hq : iq_Gg 1 245 (49, [none, none, none, none, none, some (.int w), none], [], (iq_sh l, I, J, X)) r) : iq_Gg 1 245 (6, [some (.ref 76), some (.ref 99), some (.int x2), none, some (.int x4), some (.int v.1), some (.int v.2)], [], (iq_sh l, I, J, X)) r :=
  iq_lp_ok (σ := fun v => (6, [some (.ref 76), some (.ref 99), some (.int x2), none, some (.int x4), some (.int v.1), some (.int v.2)], [], (iq_sh l, I, J, X))) (Q := fun w r => iq_Gg 1 245 (49, [none, none, none, none, none, some (.int w), none], [], (iq_sh l, I, J, X)) r) (fun v q hv r h1 h2 => zM_stateOf_76_99_l6_bok l x2 x4 I J X v.1 v.2 hv r h1 h2) h r hq
set_option maxRecDepth 100000 in
theorem zM_stateOf_76_99_ok (l : Nat)  (x2 : Int32) (x3 : Int32) (x4 : Int32) (I : iq_I) (J : iq_J) (X : iq_X) {q : Int32} (h : zM_stateOf_76_99 x2 x3 x4 I = some q) : iq_Cc 2 245 [.ref 76, .ref 99, .int x2, .int x3, .int x4] (iq_sh l, I, J, X) (.inl (some (.int q)), (iq_sh l, I, J, X)) := by
  refine iq_Cc_of (L := [some (.ref 76), some (.ref 99), some (.int x2), some (.int x3), some (.int x4), none, none]) rfl rfl ?_
  unfold zM_stateOf_76_99 at h
  refine iq_G_go (k := 4) (σ' := (6, [some (.ref 76), some (.ref 99), some (.int x2), some (.int x3), some (.int x4), some (.int x3), some (.int (0 : Int32))], [], (iq_sh l, I, J, X))) (fun _ => rfl) ?_
  obtain ⟨w3, hw3, h⟩ := iq_bnd h
  refine iq_G_fg (L := [some (.ref 76), some (.ref 99), some (.int x2), none, some (.int x4), some (.int x3), some (.int (0 : Int32))]) (And.intro rfl (And.intro rfl (And.intro rfl (And.intro rfl (And.intro rfl (And.intro rfl trivial)))))) ?_
  refine zM_stateOf_76_99_l6_ok l x2 x4 I J X hw3 _ ?_
  show iq_Gg 1 245 (49, [none, none, none, none, none, some (.int w3), none], [], (iq_sh l, I, J, X)) _
  refine iq_G_go (k := 1) (σ' := (51, [none, none, none, none, none, some (.int w3), none], [.int w3], (iq_sh l, I, J, X))) (fun _ => rfl) ?_
  cases h
  exact iq_G_ret (fun _ => rfl)
set_option maxRecDepth 100000 in
theorem zM_stateNow_76_99_ok (l : Nat)  (x2 : Int32) (I : iq_I) (J : iq_J) (X : iq_X) {q : Int32} (h : zM_stateNow_76_99 x2 I = some q) : iq_Cc 3 246 [.ref 76, .ref 99, .int x2] (iq_sh l, I, J, X) (.inl (some (.int q)), (iq_sh l, I, J, X)) := by
  refine iq_Cc_of (L := [some (.ref 76), some (.ref 99), some (.int x2)]) rfl rfl ?_
  unfold zM_stateNow_76_99 at h
  refine iq_G_go (k := 6) (σ' := (8, [some (.ref 76), some (.ref 99), some (.int x2)], [.int x2, .ref 83, .int x2, .ref 99, .ref 76], (iq_sh l, I, J, X))) (fun _ => rfl) ?_
  obtain ⟨hc_, h⟩ := iq_itn h
  refine iq_G_pos (c := iq_in x2 5) (σ1 := (9, [some (.ref 76), some (.ref 99), some (.int x2)], [.int (I 83 (Int32.toNatClampNeg x2)), .int x2, .ref 99, .ref 76], (iq_sh l, I, J, X))) (fun _ => rfl) hc_ ?_
  refine iq_G_go (k := 1) (σ' := (10, [some (.ref 76), some (.ref 99), some (.int x2)], [.int (-1 : Int32), .int (I 83 (Int32.toNatClampNeg x2)), .int x2, .ref 99, .ref 76], (iq_sh l, I, J, X))) (fun _ => rfl) ?_
  obtain ⟨q1, hq1, h⟩ := iq_bnd h
  refine iq_G_call (σ' := (13, [some (.ref 76), some (.ref 99), some (.int x2)], [.int q1], (iq_sh l, I, J, X))) (fun _ => rfl) (zM_stateOf_76_99_ok l x2 (I 83 (Int32.toNatClampNeg x2)) (-1 : Int32) I J X hq1) rfl rfl ?_
  cases h
  exact iq_G_ret (fun _ => rfl)
set_option maxRecDepth 100000 in
theorem zM_rule_76_99_l6_bok (l : Nat)  (x1 : Int32) (x3 : Int32) (x4 : Int32) (I : iq_I) (J : iq_J) (X : iq_X) (x5 : Int32) (x6 : Int32)  {q : (Int32 × Int32) ⊕ (Int32)} (h : zM_rule_76_99_l6_b x1 x3 x4 I x5 x6 = some q) (r : iq_R × iq_M) (hc : ∀ v, q = .inl v → iq_Gg 2 261 (6, [some (.ref 76), some (.int x1), some (.ref 99), some (.int x3), some (.int x4), some (.int v.1), some (.int v.2)], [], (iq_sh l, I, J, X)) r) (hx : ∀ w, q = .inr w → iq_Gg 2 261 (43, [some (.ref 76), some (.int x1), some (.ref 99), some (.int x3), some (.int x4), some (.int w), none], [], (iq_sh l, I, J, X)) r) : iq_Gg 2 261 (6, [some (.ref 76), some (.int x1), some (.ref 99), some (.int x3), some (.int x4), some (.int x5), some (.int x6)], [], (iq_sh l, I, J, X)) r := by
  unfold zM_rule_76_99_l6_b at h
  refine iq_G_go (k := 3) (σ' := (10, [some (.ref 76), some (.int x1), some (.ref 99), some (.int x3), some (.int x4), some (.int x5), some (.int x6)], [.int x3, .ref 99, .int x6], (iq_sh l, I, J, X))) (fun _ => rfl) ?_
  obtain ⟨hc_, h⟩ := iq_itn h
  refine iq_G_pos (c := iq_in x3 206) (σ1 := (11, [some (.ref 76), some (.int x1), some (.ref 99), some (.int x3), some (.int x4), some (.int x5), some (.int x6)], [.int (I 99 (Int32.toNatClampNeg x3)), .int x6], (iq_sh l, I, J, X))) (fun _ => rfl) hc_ ?_
  rcases iq_ite h with ⟨hc_, h⟩ | ⟨hc_, h⟩
  · refine iq_G_pos (c := (I 99 (Int32.toNatClampNeg x3)) ≤ x6) (σ1 := (43, [some (.ref 76), some (.int x1), some (.ref 99), some (.int x3), some (.int x4), some (.int x5), some (.int x6)], [], (iq_sh l, I, J, X))) (fun _ => rfl) hc_ ?_
    cases h
    exact iq_G_fg (L := [some (.ref 76), some (.int x1), some (.ref 99), some (.int x3), some (.int x4), some (.int x5), none]) (And.intro rfl (And.intro rfl (And.intro rfl (And.intro rfl (And.intro rfl (And.intro rfl trivial)))))) (hx x5 rfl)
  · refine iq_G_neg (c := (I 99 (Int32.toNatClampNeg x3)) ≤ x6) (σ1 := (14, [some (.ref 76), some (.int x1), some (.ref 99), some (.int x3), some (.int x4), some (.int x5), some (.int x6)], [], (iq_sh l, I, J, X))) (fun _ => rfl) hc_ ?_
    refine iq_G_go (k := 5) (σ' := (21, [some (.ref 76), some (.int x1), some (.ref 99), some (.int x3), some (.int x4), some (.int x5), some (.int x6)], [.int x6, .int x3, .ref 99, .ref 76, .int x5], (iq_sh l, I, J, X))) (fun _ => rfl) ?_
    obtain ⟨q1, hq1, h⟩ := iq_bnd h
    refine iq_G_call (σ' := (24, [some (.ref 76), some (.int x1), some (.ref 99), some (.int x3), some (.int x4), some (.int x5), some (.int x6)], [.int q1, .int x5], (iq_sh l, I, J, X))) (fun _ => rfl) (zM_wordAt_76_99_ok l x3 x6 I J X hq1) rfl rfl ?_
    refine iq_G_go (k := 1) (σ' := (26, [some (.ref 76), some (.int x1), some (.ref 99), some (.int x3), some (.int x4), some (.int x5), some (.int x6)], [.int x4, .int q1, .int x5], (iq_sh l, I, J, X))) (fun _ => rfl) ?_
    rcases iq_ite h with ⟨hc_, h⟩ | ⟨hc_, h⟩
    · refine iq_G_pos (c := ¬ q1 = x4) (σ1 := (33, [some (.ref 76), some (.int x1), some (.ref 99), some (.int x3), some (.int x4), some (.int x5), some (.int x6)], [.int x5], (iq_sh l, I, J, X))) (fun _ => rfl) hc_ ?_
      refine iq_G_go (k := 5) (σ' := (6, [some (.ref 76), some (.int x1), some (.ref 99), some (.int x3), some (.int x4), some (.int (x5 + (0 : Int32))), some (.int (x6 + (1 : Int32)))], [], (iq_sh l, I, J, X))) (fun _ => rfl) ?_
      cases h
      exact iq_G_fg (L := [some (.ref 76), some (.int x1), some (.ref 99), some (.int x3), some (.int x4), some (.int (x5 + (0 : Int32))), some (.int (x6 + (1 : Int32)))]) (And.intro rfl (And.intro rfl (And.intro rfl (And.intro rfl (And.intro rfl (And.intro rfl (And.intro rfl trivial))))))) (hc ((x5 + (0 : Int32)), (x6 + (1 : Int32))) rfl)
    · refine iq_G_neg (c := ¬ q1 = x4) (σ1 := (29, [some (.ref 76), some (.int x1), some (.ref 99), some (.int x3), some (.int x4), some (.int x5), some (.int x6)], [.int x5], (iq_sh l, I, J, X))) (fun _ => rfl) hc_ ?_
      refine iq_G_go (k := 6) (σ' := (6, [some (.ref 76), some (.int x1), some (.ref 99), some (.int x3), some (.int x4), some (.int (x5 + (1 : Int32))), some (.int (x6 + (1 : Int32)))], [], (iq_sh l, I, J, X))) (fun _ => rfl) ?_
      cases h
      exact iq_G_fg (L := [some (.ref 76), some (.int x1), some (.ref 99), some (.int x3), some (.int x4), some (.int (x5 + (1 : Int32))), some (.int (x6 + (1 : Int32)))]) (And.intro rfl (And.intro rfl (And.intro rfl (And.intro rfl (And.intro rfl (And.intro rfl (And.intro rfl trivial))))))) (hc ((x5 + (1 : Int32)), (x6 + (1 : Int32))) rfl)
set_option maxRecDepth 100000 in
theorem zM_rule_76_99_l6_ok (l : Nat)  (x1 : Int32) (x3 : Int32) (x4 : Int32) (I : iq_I) (J : iq_J) (X : iq_X) {n : Nat} {v : Int32 × Int32} {w : Int32} (h : zM_rule_76_99_l6 x1 x3 x4 I n v = some w) (r : iq_R × iq_M) (hq : iq_Gg 2 261 (43, [some (.ref 76), some (.int x1), some (.ref 99), some (.int x3), some (.int x4), some (.int w), none], [], (iq_sh l, I, J, X)) r) : iq_Gg 2 261 (6, [some (.ref 76), some (.int x1), some (.ref 99), some (.int x3), some (.int x4), some (.int v.1), some (.int v.2)], [], (iq_sh l, I, J, X)) r :=
  iq_lp_ok (σ := fun v => (6, [some (.ref 76), some (.int x1), some (.ref 99), some (.int x3), some (.int x4), some (.int v.1), some (.int v.2)], [], (iq_sh l, I, J, X))) (Q := fun w r => iq_Gg 2 261 (43, [some (.ref 76), some (.int x1), some (.ref 99), some (.int x3), some (.int x4), some (.int w), none], [], (iq_sh l, I, J, X)) r) (fun v q hv r h1 h2 => zM_rule_76_99_l6_bok l x1 x3 x4 I J X v.1 v.2 hv r h1 h2) h r hq
set_option maxRecDepth 100000 in
theorem zM_rule_76_99_144_ok (l : Nat)  (x1 : Int32) (s1 : Int32) (s2 : Int32) (I : iq_I) (J : iq_J) (X : iq_X)  {q : Int32 × iq_I} (h : zM_rule_76_99_144 x1 s1 s2 I = some q)  : iq_Gg 2 261 (144, [some (.ref 76), some (.int x1), none, none, none, none, none], [.int s2, .int s1, .ref 101], (iq_sh l, I, J, X)) (.inl (some (.int q.1)), (iq_sh l, q.2, J, X)) := by
  unfold zM_rule_76_99_144 at h
  obtain ⟨hc_, h⟩ := iq_itn h
  refine iq_G_pos (c := iq_in s1 7) (σ1 := (145, [some (.ref 76), some (.int x1), none, none, none, none, none], [], (iq_sh l, (iq_upI I 101 (Int32.toNatClampNeg s1) s2), J, X))) (fun _ => rfl) hc_ ?_
  obtain ⟨I9, eI9, h⟩ := ir_letG h
  rw [← eI9]
  clear eI9
  refine iq_G_go (k := 2) (σ' := (147, [some (.ref 76), some (.int x1), none, none, none, none, none], [.int x1, .ref 76], (iq_sh l, I9, J, X))) (fun _ => rfl) ?_
  obtain ⟨q10, hq10, h⟩ := iq_bnd h
  refine iq_G_call (σ' := (150, [some (.ref 76), some (.int x1), none, none, none, none, none], [.int q10.1], (iq_sh l, q10.2, J, X))) (fun _ => rfl) (zM_reckons_ok l x1 I9 J X hq10) rfl rfl ?_
  cases h
  exact iq_G_ret (fun _ => rfl)
set_option maxRecDepth 100000 in
theorem zM_rule_76_99_143_ok (l : Nat)  (x1 : Int32) (s1 : Int32) (I : iq_I) (J : iq_J) (X : iq_X)  {q : Int32 × iq_I} (h : zM_rule_76_99_143 x1 s1 I = some q)  : iq_Gg 2 261 (143, [some (.ref 76), some (.int x1), none, none, none, none, none], [.int s1, .ref 101], (iq_sh l, I, J, X)) (.inl (some (.int q.1)), (iq_sh l, q.2, J, X)) := by
  unfold zM_rule_76_99_143 at h
  refine iq_G_go (k := 1) (σ' := (144, [some (.ref 76), some (.int x1), none, none, none, none, none], [.int (0 : Int32), .int s1, .ref 101], (iq_sh l, I, J, X))) (fun _ => rfl) ?_
  exact iq_G_fg (L := [some (.ref 76), some (.int x1), none, none, none, none, none]) (And.intro rfl (And.intro rfl trivial)) (zM_rule_76_99_144_ok l x1 s1 (0 : Int32) I J X  h )
set_option maxRecDepth 100000 in
theorem zM_rule_76_99_ok (l : Nat)  (x1 : Int32) (x3 : Int32) (x4 : Int32) (I : iq_I) (J : iq_J) (X : iq_X) {q : Int32 × iq_I} (h : zM_rule_76_99 x1 x3 x4 I = some q) : iq_Cc 3 261 [.ref 76, .int x1, .ref 99, .int x3, .int x4] (iq_sh l, I, J, X) (.inl (some (.int q.1)), (iq_sh l, q.2, J, X)) := by
  refine iq_Cc_of (L := [some (.ref 76), some (.int x1), some (.ref 99), some (.int x3), some (.int x4), none, none]) rfl rfl ?_
  unfold zM_rule_76_99 at h
  refine iq_G_go (k := 4) (σ' := (6, [some (.ref 76), some (.int x1), some (.ref 99), some (.int x3), some (.int x4), some (.int (0 : Int32)), some (.int (0 : Int32))], [], (iq_sh l, I, J, X))) (fun _ => rfl) ?_
  obtain ⟨w2, hw2, h⟩ := iq_bnd h
  refine iq_G_fg (L := [some (.ref 76), some (.int x1), some (.ref 99), some (.int x3), some (.int x4), some (.int (0 : Int32)), some (.int (0 : Int32))]) (And.intro rfl (And.intro rfl (And.intro rfl (And.intro rfl (And.intro rfl (And.intro rfl (And.intro rfl trivial))))))) ?_
  refine zM_rule_76_99_l6_ok l x1 x3 x4 I J X hw2 _ ?_
  show iq_Gg 2 261 (43, [some (.ref 76), some (.int x1), some (.ref 99), some (.int x3), some (.int x4), some (.int w2), none], [], (iq_sh l, I, J, X)) _
  refine iq_G_go (k := 6) (σ' := (54, [some (.ref 76), some (.int x1), some (.ref 99), some (.int x3), some (.int x4), some (.int w2), none], [.int x4, .ref 79, .int (0 : Int32), .ref 101], (iq_sh l, I, J, X))) (fun _ => rfl) ?_
  obtain ⟨hc_, h⟩ := iq_itn h
  refine iq_G_pos (c := iq_in x4 14) (σ1 := (55, [some (.ref 76), some (.int x1), some (.ref 99), some (.int x3), some (.int x4), some (.int w2), none], [.int (I 79 (Int32.toNatClampNeg x4)), .int (0 : Int32), .ref 101], (iq_sh l, I, J, X))) (fun _ => rfl) hc_ ?_
  refine iq_G_go (k := 1) (σ' := (56, [some (.ref 76), some (.int x1), some (.ref 99), some (.int x3), some (.int x4), some (.int w2), none], [], (iq_sh l, (iq_upI I 101 0 (I 79 (Int32.toNatClampNeg x4))), J, X))) (fun _ => rfl) ?_
  obtain ⟨I3, eI3, h⟩ := ir_letG h
  rw [← eI3]
  clear eI3
  refine iq_G_go (k := 6) (σ' := (67, [some (.ref 76), some (.int x1), some (.ref 99), some (.int x3), some (.int x4), some (.int w2), none], [.int x4, .ref 78, .int (1 : Int32), .ref 101], (iq_sh l, I3, J, X))) (fun _ => rfl) ?_
  obtain ⟨hc_, h⟩ := iq_itn h
  refine iq_G_pos (c := iq_in x4 14) (σ1 := (68, [some (.ref 76), some (.int x1), some (.ref 99), some (.int x3), some (.int x4), some (.int w2), none], [.int (I3 78 (Int32.toNatClampNeg x4)), .int (1 : Int32), .ref 101], (iq_sh l, I3, J, X))) (fun _ => rfl) hc_ ?_
  refine iq_G_go (k := 1) (σ' := (69, [some (.ref 76), some (.int x1), some (.ref 99), some (.int x3), some (.int x4), some (.int w2), none], [], (iq_sh l, (iq_upI I3 101 1 (I3 78 (Int32.toNatClampNeg x4))), J, X))) (fun _ => rfl) ?_
  obtain ⟨I4, eI4, h⟩ := ir_letG h
  rw [← eI4]
  clear eI4
  refine iq_G_go (k := 4) (σ' := (76, [some (.ref 76), some (.int x1), some (.ref 99), some (.int x3), some (.int x4), some (.int w2), none], [.int x4, .int (2 : Int32), .ref 101], (iq_sh l, I4, J, X))) (fun _ => rfl) ?_
  refine iq_G_go (k := 1) (σ' := (77, [some (.ref 76), some (.int x1), some (.ref 99), some (.int x3), some (.int x4), some (.int w2), none], [], (iq_sh l, (iq_upI I4 101 2 x4), J, X))) (fun _ => rfl) ?_
  obtain ⟨I5, eI5, h⟩ := ir_letG h
  rw [← eI5]
  clear eI5
  refine iq_G_go (k := 5) (σ' := (84, [some (.ref 76), some (.int x1), some (.ref 99), some (.int x3), some (.int x4), some (.int w2), none], [.int (5 : Int32), .ref 99, .int (3 : Int32), .ref 101], (iq_sh l, I5, J, X))) (fun _ => rfl) ?_
  refine iq_G_go (k := 1) (σ' := (85, [some (.ref 76), some (.int x1), some (.ref 99), some (.int x3), some (.int x4), some (.int w2), none], [.int (I5 99 5), .int (3 : Int32), .ref 101], (iq_sh l, I5, J, X))) (fun _ => rfl) ?_
  refine iq_G_go (k := 1) (σ' := (86, [some (.ref 76), some (.int x1), some (.ref 99), some (.int x3), some (.int x4), some (.int w2), none], [], (iq_sh l, (iq_upI I5 101 3 (I5 99 5)), J, X))) (fun _ => rfl) ?_
  obtain ⟨I6, eI6, h⟩ := ir_letG h
  rw [← eI6]
  clear eI6
  refine iq_G_go (k := 5) (σ' := (93, [some (.ref 76), some (.int x1), some (.ref 99), some (.int x3), some (.int x4), some (.int w2), none], [.int x3, .ref 99, .int (4 : Int32), .ref 101], (iq_sh l, I6, J, X))) (fun _ => rfl) ?_
  obtain ⟨hc_, h⟩ := iq_itn h
  refine iq_G_pos (c := iq_in x3 206) (σ1 := (94, [some (.ref 76), some (.int x1), some (.ref 99), some (.int x3), some (.int x4), some (.int w2), none], [.int (I6 99 (Int32.toNatClampNeg x3)), .int (4 : Int32), .ref 101], (iq_sh l, I6, J, X))) (fun _ => rfl) hc_ ?_
  refine iq_G_go (k := 1) (σ' := (95, [some (.ref 76), some (.int x1), some (.ref 99), some (.int x3), some (.int x4), some (.int w2), none], [], (iq_sh l, (iq_upI I6 101 4 (I6 99 (Int32.toNatClampNeg x3))), J, X))) (fun _ => rfl) ?_
  obtain ⟨I7, eI7, h⟩ := ir_letG h
  rw [← eI7]
  clear eI7
  refine iq_G_go (k := 4) (σ' := (102, [some (.ref 76), some (.int x1), some (.ref 99), some (.int x3), some (.int x4), some (.int w2), none], [.int w2, .int (5 : Int32), .ref 101], (iq_sh l, I7, J, X))) (fun _ => rfl) ?_
  refine iq_G_go (k := 1) (σ' := (103, [some (.ref 76), some (.int x1), some (.ref 99), some (.int x3), some (.int x4), some (.int w2), none], [], (iq_sh l, (iq_upI I7 101 5 w2), J, X))) (fun _ => rfl) ?_
  obtain ⟨I8, eI8, h⟩ := ir_letG h
  rw [← eI8]
  clear eI8
  refine iq_G_go (k := 5) (σ' := (111, [some (.ref 76), some (.int x1), some (.ref 99), some (.int x3), some (.int x4), some (.int w2), none], [.int x3, .ref 99, .int (6 : Int32), .ref 101], (iq_sh l, I8, J, X))) (fun _ => rfl) ?_
  obtain ⟨hc_, h⟩ := iq_itn h
  refine iq_G_pos (c := iq_in x3 206) (σ1 := (112, [some (.ref 76), some (.int x1), some (.ref 99), some (.int x3), some (.int x4), some (.int w2), none], [.int (I8 99 (Int32.toNatClampNeg x3)), .int (6 : Int32), .ref 101], (iq_sh l, I8, J, X))) (fun _ => rfl) hc_ ?_
  rcases iq_ite h with ⟨hc_, h⟩ | ⟨hc_, h⟩
  · refine iq_G_pos (c := (I8 99 (Int32.toNatClampNeg x3)) ≤ 0) (σ1 := (143, [some (.ref 76), some (.int x1), some (.ref 99), some (.int x3), some (.int x4), some (.int w2), none], [.int (6 : Int32), .ref 101], (iq_sh l, I8, J, X))) (fun _ => rfl) hc_ ?_
    exact iq_G_fg (L := [some (.ref 76), some (.int x1), none, none, none, none, none]) (And.intro rfl (And.intro rfl trivial)) (zM_rule_76_99_143_ok l x1 (6 : Int32) I8 J X  h )
  · refine iq_G_neg (c := (I8 99 (Int32.toNatClampNeg x3)) ≤ 0) (σ1 := (115, [some (.ref 76), some (.int x1), some (.ref 99), some (.int x3), some (.int x4), some (.int w2), none], [.int (6 : Int32), .ref 101], (iq_sh l, I8, J, X))) (fun _ => rfl) hc_ ?_
    refine iq_G_go (k := 6) (σ' := (121, [some (.ref 76), some (.int x1), some (.ref 99), some (.int x3), some (.int x4), some (.int w2), none], [.int x3, .ref 99, .int x3, .ref 99, .ref 76, .ref 76, .int (6 : Int32), .ref 101], (iq_sh l, I8, J, X))) (fun _ => rfl) ?_
    obtain ⟨hc_, h⟩ := iq_itn h
    refine iq_G_pos (c := iq_in x3 206) (σ1 := (122, [some (.ref 76), some (.int x1), some (.ref 99), some (.int x3), some (.int x4), some (.int w2), none], [.int (I8 99 (Int32.toNatClampNeg x3)), .int x3, .ref 99, .ref 76, .ref 76, .int (6 : Int32), .ref 101], (iq_sh l, I8, J, X))) (fun _ => rfl) hc_ ?_
    refine iq_G_go (k := 2) (σ' := (124, [some (.ref 76), some (.int x1), some (.ref 99), some (.int x3), some (.int x4), some (.int w2), none], [.int ((I8 99 (Int32.toNatClampNeg x3)) - (1 : Int32)), .int x3, .ref 99, .ref 76, .ref 76, .int (6 : Int32), .ref 101], (iq_sh l, I8, J, X))) (fun _ => rfl) ?_
    obtain ⟨q11, hq11, h⟩ := iq_bnd h
    refine iq_G_call (σ' := (127, [some (.ref 76), some (.int x1), some (.ref 99), some (.int x3), some (.int x4), some (.int w2), none], [.int q11, .ref 76, .int (6 : Int32), .ref 101], (iq_sh l, I8, J, X))) (fun _ => rfl) (zM_wordAt_76_99_ok l x3 ((I8 99 (Int32.toNatClampNeg x3)) - (1 : Int32)) I8 J X hq11) rfl rfl ?_
    obtain ⟨q12, hq12, h⟩ := iq_bnd h
    refine iq_G_call (σ' := (130, [some (.ref 76), some (.int x1), some (.ref 99), some (.int x3), some (.int x4), some (.int w2), none], [.int q12, .int (6 : Int32), .ref 101], (iq_sh l, I8, J, X))) (fun _ => rfl) (zM_lastLetter_ok l q11 I8 J X hq12) rfl rfl ?_
    refine iq_G_go (k := 2) (σ' := (133, [some (.ref 76), some (.int x1), some (.ref 99), some (.int x3), some (.int x4), some (.int w2), none], [.int x4, .ref 76, .int q12, .int (6 : Int32), .ref 101], (iq_sh l, I8, J, X))) (fun _ => rfl) ?_
    obtain ⟨q13, hq13, h⟩ := iq_bnd h
    refine iq_G_call (σ' := (136, [some (.ref 76), some (.int x1), some (.ref 99), some (.int x3), some (.int x4), some (.int w2), none], [.int q13, .int q12, .int (6 : Int32), .ref 101], (iq_sh l, I8, J, X))) (fun _ => rfl) (zM_lastLetter_ok l x4 I8 J X hq13) rfl rfl ?_
    rcases iq_ite h with ⟨hc_, h⟩ | ⟨hc_, h⟩
    · refine iq_G_pos (c := ¬ q12 = q13) (σ1 := (143, [some (.ref 76), some (.int x1), some (.ref 99), some (.int x3), some (.int x4), some (.int w2), none], [.int (6 : Int32), .ref 101], (iq_sh l, I8, J, X))) (fun _ => rfl) hc_ ?_
      exact iq_G_fg (L := [some (.ref 76), some (.int x1), none, none, none, none, none]) (And.intro rfl (And.intro rfl trivial)) (zM_rule_76_99_143_ok l x1 (6 : Int32) I8 J X  h )
    · refine iq_G_neg (c := ¬ q12 = q13) (σ1 := (139, [some (.ref 76), some (.int x1), some (.ref 99), some (.int x3), some (.int x4), some (.int w2), none], [.int (6 : Int32), .ref 101], (iq_sh l, I8, J, X))) (fun _ => rfl) hc_ ?_
      refine iq_G_go (k := 2) (σ' := (144, [some (.ref 76), some (.int x1), some (.ref 99), some (.int x3), some (.int x4), some (.int w2), none], [.int (1 : Int32), .int (6 : Int32), .ref 101], (iq_sh l, I8, J, X))) (fun _ => rfl) ?_
      exact iq_G_fg (L := [some (.ref 76), some (.int x1), none, none, none, none, none]) (And.intro rfl (And.intro rfl trivial)) (zM_rule_76_99_144_ok l x1 (6 : Int32) (1 : Int32) I8 J X  h )
set_option maxRecDepth 100000 in
theorem zM_mayCome_76_99_ok (l : Nat)  (x2 : Int32) (x3 : Int32) (x4 : Int32) (I : iq_I) (J : iq_J) (X : iq_X) {q : Int32 × iq_I} (h : zM_mayCome_76_99 x2 x3 x4 I = some q) : iq_Cc 4 263 [.ref 76, .ref 99, .int x2, .int x3, .int x4] (iq_sh l, I, J, X) (.inl (some (.int q.1)), (iq_sh l, q.2, J, X)) := by
  refine iq_Cc_of (L := [some (.ref 76), some (.ref 99), some (.int x2), some (.int x3), some (.int x4), none]) rfl rfl ?_
  unfold zM_mayCome_76_99 at h
  refine iq_G_go (k := 2) (σ' := (2, [some (.ref 76), some (.ref 99), some (.int x2), some (.int x3), some (.int x4), none], [.int (-1 : Int32), .int x3], (iq_sh l, I, J, X))) (fun _ => rfl) ?_
  rcases iq_ite h with ⟨hc_, h⟩ | ⟨hc_, h⟩
  · refine iq_G_pos (c := x3 = (-1 : Int32)) (σ1 := (13, [some (.ref 76), some (.ref 99), some (.int x2), some (.int x3), some (.int x4), none], [], (iq_sh l, I, J, X))) (fun _ => rfl) hc_ ?_
    refine iq_G_go (k := 1) (σ' := (14, [some (.ref 76), some (.ref 99), some (.int x2), some (.int x3), some (.int x4), none], [.int (0 : Int32)], (iq_sh l, I, J, X))) (fun _ => rfl) ?_
    cases h
    exact iq_G_ret (fun _ => rfl)
  · refine iq_G_neg (c := x3 = (-1 : Int32)) (σ1 := (5, [some (.ref 76), some (.ref 99), some (.int x2), some (.int x3), some (.int x4), none], [], (iq_sh l, I, J, X))) (fun _ => rfl) hc_ ?_
    refine iq_G_go (k := 2) (σ' := (7, [some (.ref 76), some (.ref 99), some (.int x2), some (.int x3), some (.int x4), none], [.int x2, .ref 99], (iq_sh l, I, J, X))) (fun _ => rfl) ?_
    obtain ⟨hc_, h⟩ := iq_itn h
    refine iq_G_pos (c := iq_in x2 206) (σ1 := (8, [some (.ref 76), some (.ref 99), some (.int x2), some (.int x3), some (.int x4), none], [.int (I 99 (Int32.toNatClampNeg x2))], (iq_sh l, I, J, X))) (fun _ => rfl) hc_ ?_
    refine iq_G_go (k := 1) (σ' := (10, [some (.ref 76), some (.ref 99), some (.int x2), some (.int x3), some (.int x4), none], [.int (40 : Int32), .int (I 99 (Int32.toNatClampNeg x2))], (iq_sh l, I, J, X))) (fun _ => rfl) ?_
    rcases iq_ite h with ⟨hc_, h⟩ | ⟨hc_, h⟩
    · refine iq_G_pos (c := ¬ (I 99 (Int32.toNatClampNeg x2)) = (40 : Int32)) (σ1 := (15, [some (.ref 76), some (.ref 99), some (.int x2), some (.int x3), some (.int x4), none], [], (iq_sh l, I, J, X))) (fun _ => rfl) hc_ ?_
      refine iq_G_go (k := 3) (σ' := (19, [some (.ref 76), some (.ref 99), some (.int x2), some (.int x3), some (.int x4), none], [.int x4, .int x3, .ref 76], (iq_sh l, I, J, X))) (fun _ => rfl) ?_
      obtain ⟨q1, hq1, h⟩ := iq_bnd h
      refine iq_G_call (σ' := (22, [some (.ref 76), some (.ref 99), some (.int x2), some (.int x3), some (.int x4), none], [.int q1], (iq_sh l, I, J, X))) (fun _ => rfl) (zM_leads_ok l x3 x4 I J X hq1) rfl rfl ?_
      refine iq_G_go (k := 3) (σ' := (27, [some (.ref 76), some (.ref 99), some (.int x2), some (.int x3), some (.int x4), some (.int q1)], [.int (-1 : Int32), .int q1], (iq_sh l, I, J, X))) (fun _ => rfl) ?_
      rcases iq_ite h with ⟨hc_, h⟩ | ⟨hc_, h⟩
      · refine iq_G_pos (c := q1 = (-1 : Int32)) (σ1 := (66, [some (.ref 76), some (.ref 99), some (.int x2), some (.int x3), some (.int x4), some (.int q1)], [], (iq_sh l, I, J, X))) (fun _ => rfl) hc_ ?_
        refine iq_G_go (k := 1) (σ' := (67, [some (.ref 76), some (.ref 99), some (.int x2), some (.int x3), some (.int x4), some (.int q1)], [.int (0 : Int32)], (iq_sh l, I, J, X))) (fun _ => rfl) ?_
        cases h
        exact iq_G_ret (fun _ => rfl)
      · refine iq_G_neg (c := q1 = (-1 : Int32)) (σ1 := (30, [some (.ref 76), some (.ref 99), some (.int x2), some (.int x3), some (.int x4), some (.int q1)], [], (iq_sh l, I, J, X))) (fun _ => rfl) hc_ ?_
        refine iq_G_go (k := 2) (σ' := (33, [some (.ref 76), some (.ref 99), some (.int x2), some (.int x3), some (.int x4), some (.int q1)], [.int q1, .ref 76], (iq_sh l, I, J, X))) (fun _ => rfl) ?_
        obtain ⟨q2, hq2, h⟩ := iq_bnd h
        refine iq_G_call (σ' := (36, [some (.ref 76), some (.ref 99), some (.int x2), some (.int x3), some (.int x4), some (.int q1)], [.int q2], (iq_sh l, I, J, X))) (fun _ => rfl) (zM_canFollow_ok l q1 I J X hq2) rfl rfl ?_
        rcases iq_ite h with ⟨hc_, h⟩ | ⟨hc_, h⟩
        · refine iq_G_pos (c := q2 = 0) (σ1 := (66, [some (.ref 76), some (.ref 99), some (.int x2), some (.int x3), some (.int x4), some (.int q1)], [], (iq_sh l, I, J, X))) (fun _ => rfl) hc_ ?_
          refine iq_G_go (k := 1) (σ' := (67, [some (.ref 76), some (.ref 99), some (.int x2), some (.int x3), some (.int x4), some (.int q1)], [.int (0 : Int32)], (iq_sh l, I, J, X))) (fun _ => rfl) ?_
          cases h
          exact iq_G_ret (fun _ => rfl)
        · refine iq_G_neg (c := q2 = 0) (σ1 := (39, [some (.ref 76), some (.ref 99), some (.int x2), some (.int x3), some (.int x4), some (.int q1)], [], (iq_sh l, I, J, X))) (fun _ => rfl) hc_ ?_
          refine iq_G_go (k := 3) (σ' := (44, [some (.ref 76), some (.ref 99), some (.int x2), some (.int x3), some (.int x4), some (.int q1)], [.int (-1 : Int32), .int (I 76 6)], (iq_sh l, I, J, X))) (fun _ => rfl) ?_
          rcases iq_ite h with ⟨hc_, h⟩ | ⟨hc_, h⟩
          · refine iq_G_pos (c := (I 76 6) = (-1 : Int32)) (σ1 := (62, [some (.ref 76), some (.ref 99), some (.int x2), some (.int x3), some (.int x4), some (.int q1)], [], (iq_sh l, I, J, X))) (fun _ => rfl) hc_ ?_
            refine iq_G_go (k := 2) (σ' := (67, [some (.ref 76), some (.ref 99), some (.int x2), some (.int x3), some (.int x4), some (.int q1)], [.int (1 : Int32)], (iq_sh l, I, J, X))) (fun _ => rfl) ?_
            cases h
            exact iq_G_ret (fun _ => rfl)
          · refine iq_G_neg (c := (I 76 6) = (-1 : Int32)) (σ1 := (47, [some (.ref 76), some (.ref 99), some (.int x2), some (.int x3), some (.int x4), some (.int q1)], [], (iq_sh l, I, J, X))) (fun _ => rfl) hc_ ?_
            refine iq_G_go (k := 6) (σ' := (56, [some (.ref 76), some (.ref 99), some (.int x2), some (.int x3), some (.int x4), some (.int q1)], [.int x4, .int x2, .ref 99, .int (I 76 6), .ref 76], (iq_sh l, I, J, X))) (fun _ => rfl) ?_
            obtain ⟨q3, hq3, h⟩ := iq_bnd h
            refine iq_G_call (σ' := (59, [some (.ref 76), some (.ref 99), some (.int x2), some (.int x3), some (.int x4), some (.int q1)], [.int q3.1], (iq_sh l, q3.2, J, X))) (fun _ => rfl) (zM_rule_76_99_ok l (I 76 6) x2 x4 I J X hq3) rfl rfl ?_
            rcases iq_ite h with ⟨hc_, h⟩ | ⟨hc_, h⟩
            · refine iq_G_pos (c := q3.1 = 0) (σ1 := (66, [some (.ref 76), some (.ref 99), some (.int x2), some (.int x3), some (.int x4), some (.int q1)], [], (iq_sh l, q3.2, J, X))) (fun _ => rfl) hc_ ?_
              refine iq_G_go (k := 1) (σ' := (67, [some (.ref 76), some (.ref 99), some (.int x2), some (.int x3), some (.int x4), some (.int q1)], [.int (0 : Int32)], (iq_sh l, q3.2, J, X))) (fun _ => rfl) ?_
              cases h
              exact iq_G_ret (fun _ => rfl)
            · refine iq_G_neg (c := q3.1 = 0) (σ1 := (62, [some (.ref 76), some (.ref 99), some (.int x2), some (.int x3), some (.int x4), some (.int q1)], [], (iq_sh l, q3.2, J, X))) (fun _ => rfl) hc_ ?_
              refine iq_G_go (k := 2) (σ' := (67, [some (.ref 76), some (.ref 99), some (.int x2), some (.int x3), some (.int x4), some (.int q1)], [.int (1 : Int32)], (iq_sh l, q3.2, J, X))) (fun _ => rfl) ?_
              cases h
              exact iq_G_ret (fun _ => rfl)
    · refine iq_G_neg (c := ¬ (I 99 (Int32.toNatClampNeg x2)) = (40 : Int32)) (σ1 := (13, [some (.ref 76), some (.ref 99), some (.int x2), some (.int x3), some (.int x4), none], [], (iq_sh l, I, J, X))) (fun _ => rfl) hc_ ?_
      refine iq_G_go (k := 1) (σ' := (14, [some (.ref 76), some (.ref 99), some (.int x2), some (.int x3), some (.int x4), none], [.int (0 : Int32)], (iq_sh l, I, J, X))) (fun _ => rfl) ?_
      cases h
      exact iq_G_ret (fun _ => rfl)
set_option maxRecDepth 100000 in
theorem zM_weight_76_99_ok (l : Nat)  (x2 : Int32) (x3 : Int32) (x4 : Int32) (x5 : Int32) (I : iq_I) (J : iq_J) (X : iq_X) {q : Int32 × iq_I} (h : zM_weight_76_99 x2 x3 x4 x5 I = some q) : iq_Cc 5 282 [.ref 76, .ref 99, .int x2, .int x3, .int x4, .int x5] (iq_sh l, I, J, X) (.inl (some (.int q.1)), (iq_sh l, q.2, J, X)) := by
  refine iq_Cc_of (L := [some (.ref 76), some (.ref 99), some (.int x2), some (.int x3), some (.int x4), some (.int x5), none]) rfl rfl ?_
  unfold zM_weight_76_99 at h
  refine iq_G_go (k := 5) (σ' := (7, [some (.ref 76), some (.ref 99), some (.int x2), some (.int x3), some (.int x4), some (.int x5), none], [.int x5, .int x4, .int x3, .ref 99, .ref 76], (iq_sh l, I, J, X))) (fun _ => rfl) ?_
  obtain ⟨q1, hq1, h⟩ := iq_bnd h
  refine iq_G_call (σ' := (10, [some (.ref 76), some (.ref 99), some (.int x2), some (.int x3), some (.int x4), some (.int x5), none], [.int q1.1], (iq_sh l, q1.2, J, X))) (fun _ => rfl) (zM_mayCome_76_99_ok l x3 x4 x5 I J X hq1) rfl rfl ?_
  rcases iq_ite h with ⟨hc_, h⟩ | ⟨hc_, h⟩
  · refine iq_G_pos (c := ¬ q1.1 = 0) (σ1 := (15, [some (.ref 76), some (.ref 99), some (.int x2), some (.int x3), some (.int x4), some (.int x5), none], [], (iq_sh l, q1.2, J, X))) (fun _ => rfl) hc_ ?_
    refine iq_G_go (k := 4) (σ' := (21, [some (.ref 76), some (.ref 99), some (.int x2), some (.int x3), some (.int x4), some (.int x5), none], [.int x2, .ref 82, .ref 76], (iq_sh l, q1.2, J, X))) (fun _ => rfl) ?_
    obtain ⟨hc_, h⟩ := iq_itn h
    refine iq_G_pos (c := iq_in x2 4) (σ1 := (22, [some (.ref 76), some (.ref 99), some (.int x2), some (.int x3), some (.int x4), some (.int x5), none], [.int (q1.2 82 (Int32.toNatClampNeg x2)), .ref 76], (iq_sh l, q1.2, J, X))) (fun _ => rfl) hc_ ?_
    refine iq_G_go (k := 3) (σ' := (26, [some (.ref 76), some (.ref 99), some (.int x2), some (.int x3), some (.int x4), some (.int x5), none], [.int x5, .int x3, .ref 99, .int (q1.2 82 (Int32.toNatClampNeg x2)), .ref 76], (iq_sh l, q1.2, J, X))) (fun _ => rfl) ?_
    obtain ⟨q2, hq2, h⟩ := iq_bnd h
    refine iq_G_call (σ' := (29, [some (.ref 76), some (.ref 99), some (.int x2), some (.int x3), some (.int x4), some (.int x5), none], [.int q2.1], (iq_sh l, q2.2, J, X))) (fun _ => rfl) (zM_rule_76_99_ok l (q1.2 82 (Int32.toNatClampNeg x2)) x3 x5 q1.2 J X hq2) rfl rfl ?_
    refine iq_G_go (k := 2) (σ' := (33, [some (.ref 76), some (.ref 99), some (.int x2), some (.int x3), some (.int x4), some (.int x5), some (.int q2.1)], [.int q2.1], (iq_sh l, q2.2, J, X))) (fun _ => rfl) ?_
    rcases iq_ite h with ⟨hc_, h⟩ | ⟨hc_, h⟩
    · refine iq_G_pos (c := 0 ≤ q2.1) (σ1 := (40, [some (.ref 76), some (.ref 99), some (.int x2), some (.int x3), some (.int x4), some (.int x5), some (.int q2.1)], [], (iq_sh l, q2.2, J, X))) (fun _ => rfl) hc_ ?_
      refine iq_G_go (k := 2) (σ' := (44, [some (.ref 76), some (.ref 99), some (.int x2), some (.int x3), some (.int x4), some (.int x5), some (.int q2.1)], [.int (99 : Int32), .int q2.1], (iq_sh l, q2.2, J, X))) (fun _ => rfl) ?_
      rcases iq_ite h with ⟨hc_, h⟩ | ⟨hc_, h⟩
      · refine iq_G_pos (c := q2.1 ≤ (99 : Int32)) (σ1 := (52, [some (.ref 76), some (.ref 99), some (.int x2), some (.int x3), some (.int x4), some (.int x5), some (.int q2.1)], [], (iq_sh l, q2.2, J, X))) (fun _ => rfl) hc_ ?_
        refine iq_G_go (k := 1) (σ' := (54, [some (.ref 76), some (.ref 99), some (.int x2), some (.int x3), some (.int x4), some (.int x5), some (.int q2.1)], [.int q2.1], (iq_sh l, q2.2, J, X))) (fun _ => rfl) ?_
        cases h
        exact iq_G_ret (fun _ => rfl)
      · refine iq_G_neg (c := q2.1 ≤ (99 : Int32)) (σ1 := (47, [some (.ref 76), some (.ref 99), some (.int x2), some (.int x3), some (.int x4), some (.int x5), some (.int q2.1)], [], (iq_sh l, q2.2, J, X))) (fun _ => rfl) hc_ ?_
        refine iq_G_go (k := 2) (σ' := (54, [some (.ref 76), some (.ref 99), some (.int x2), some (.int x3), some (.int x4), some (.int x5), some (.int q2.1)], [.int (99 : Int32)], (iq_sh l, q2.2, J, X))) (fun _ => rfl) ?_
        cases h
        exact iq_G_ret (fun _ => rfl)
    · refine iq_G_neg (c := 0 ≤ q2.1) (σ1 := (36, [some (.ref 76), some (.ref 99), some (.int x2), some (.int x3), some (.int x4), some (.int x5), some (.int q2.1)], [], (iq_sh l, q2.2, J, X))) (fun _ => rfl) hc_ ?_
      refine iq_G_go (k := 2) (σ' := (54, [some (.ref 76), some (.ref 99), some (.int x2), some (.int x3), some (.int x4), some (.int x5), some (.int q2.1)], [.int (0 : Int32)], (iq_sh l, q2.2, J, X))) (fun _ => rfl) ?_
      cases h
      exact iq_G_ret (fun _ => rfl)
  · refine iq_G_neg (c := ¬ q1.1 = 0) (σ1 := (13, [some (.ref 76), some (.ref 99), some (.int x2), some (.int x3), some (.int x4), some (.int x5), none], [], (iq_sh l, q1.2, J, X))) (fun _ => rfl) hc_ ?_
    refine iq_G_go (k := 1) (σ' := (14, [some (.ref 76), some (.ref 99), some (.int x2), some (.int x3), some (.int x4), some (.int x5), none], [.int (0 : Int32)], (iq_sh l, q1.2, J, X))) (fun _ => rfl) ?_
    cases h
    exact iq_G_ret (fun _ => rfl)
set_option maxRecDepth 100000 in
theorem zM_weights_76_99_l14_bok (l : Nat)  (x2 : Int32) (x3 : Int32) (x4 : Int32) (J : iq_J) (X : iq_X) (x5 : Int32) (x6 : Int32) (I : iq_I) {q : (Int32 × Int32 × iq_I) ⊕ (Int32 × iq_I)} (h : zM_weights_76_99_l14_b x2 x3 x4 x5 x6 I = some q) (r : iq_R × iq_M) (hc : ∀ v, q = .inl v → iq_Gg 5 283 (14, [some (.ref 76), some (.ref 99), some (.int x2), some (.int x3), some (.int x4), some (.int v.1), some (.int v.2.1)], [], (iq_sh l, v.2.2, J, X)) r) (hx : ∀ w, q = .inr w → iq_Gg 5 283 (45, [none, none, none, none, none, some (.int w.1), none], [], (iq_sh l, w.2, J, X)) r) : iq_Gg 5 283 (14, [some (.ref 76), some (.ref 99), some (.int x2), some (.int x3), some (.int x4), some (.int x5), some (.int x6)], [], (iq_sh l, I, J, X)) r := by
  unfold zM_weights_76_99_l14_b at h
  refine iq_G_go (k := 3) (σ' := (20, [some (.ref 76), some (.ref 99), some (.int x2), some (.int x3), some (.int x4), some (.int x5), some (.int x6)], [.int (I 76 2), .int x6], (iq_sh l, I, J, X))) (fun _ => rfl) ?_
  rcases iq_ite h with ⟨hc_, h⟩ | ⟨hc_, h⟩
  · refine iq_G_pos (c := (I 76 2) ≤ x6) (σ1 := (45, [some (.ref 76), some (.ref 99), some (.int x2), some (.int x3), some (.int x4), some (.int x5), some (.int x6)], [], (iq_sh l, I, J, X))) (fun _ => rfl) hc_ ?_
    cases h
    exact iq_G_fg (L := [none, none, none, none, none, some (.int x5), none]) (And.intro rfl trivial) (hx (x5, I) rfl)
  · refine iq_G_neg (c := (I 76 2) ≤ x6) (σ1 := (23, [some (.ref 76), some (.ref 99), some (.int x2), some (.int x3), some (.int x4), some (.int x5), some (.int x6)], [], (iq_sh l, I, J, X))) (fun _ => rfl) hc_ ?_
    refine iq_G_go (k := 7) (σ' := (33, [some (.ref 76), some (.ref 99), some (.int x2), some (.int x3), some (.int x4), some (.int x5), some (.int x6)], [.int x6, .int x4, .int x3, .int x2, .ref 99, .ref 76, .int x5], (iq_sh l, I, J, X))) (fun _ => rfl) ?_
    obtain ⟨q2, hq2, h⟩ := iq_bnd h
    refine iq_G_call (σ' := (36, [some (.ref 76), some (.ref 99), some (.int x2), some (.int x3), some (.int x4), some (.int x5), some (.int x6)], [.int q2.1, .int x5], (iq_sh l, q2.2, J, X))) (fun _ => rfl) (zM_weight_76_99_ok l x2 x3 x4 x6 I J X hq2) rfl rfl ?_
    refine iq_G_go (k := 4) (σ' := (14, [some (.ref 76), some (.ref 99), some (.int x2), some (.int x3), some (.int x4), some (.int (x5 + q2.1)), some (.int (x6 + (1 : Int32)))], [], (iq_sh l, q2.2, J, X))) (fun _ => rfl) ?_
    cases h
    exact iq_G_fg (L := [some (.ref 76), some (.ref 99), some (.int x2), some (.int x3), some (.int x4), some (.int (x5 + q2.1)), some (.int (x6 + (1 : Int32)))]) (And.intro rfl (And.intro rfl (And.intro rfl (And.intro rfl (And.intro rfl (And.intro rfl (And.intro rfl trivial))))))) (hc ((x5 + q2.1), (x6 + (1 : Int32)), q2.2) rfl)
set_option maxRecDepth 100000 in
theorem zM_weights_76_99_l14_ok (l : Nat)  (x2 : Int32) (x3 : Int32) (x4 : Int32) (J : iq_J) (X : iq_X) {n : Nat} {v : Int32 × Int32 × iq_I} {w : Int32 × iq_I} (h : zM_weights_76_99_l14 x2 x3 x4 n v = some w) (r : iq_R × iq_M) (hq : iq_Gg 5 283 (45, [none, none, none, none, none, some (.int w.1), none], [], (iq_sh l, w.2, J, X)) r) : iq_Gg 5 283 (14, [some (.ref 76), some (.ref 99), some (.int x2), some (.int x3), some (.int x4), some (.int v.1), some (.int v.2.1)], [], (iq_sh l, v.2.2, J, X)) r :=
  iq_lp_ok (σ := fun v => (14, [some (.ref 76), some (.ref 99), some (.int x2), some (.int x3), some (.int x4), some (.int v.1), some (.int v.2.1)], [], (iq_sh l, v.2.2, J, X))) (Q := fun w r => iq_Gg 5 283 (45, [none, none, none, none, none, some (.int w.1), none], [], (iq_sh l, w.2, J, X)) r) (fun v q hv r h1 h2 => zM_weights_76_99_l14_bok l x2 x3 x4 J X v.1 v.2.1 v.2.2 hv r h1 h2) h r hq
set_option maxRecDepth 100000 in
theorem zM_weights_76_99_ok (l : Nat)  (x2 : Int32) (x3 : Int32) (I : iq_I) (J : iq_J) (X : iq_X) {q : Int32 × iq_I} (h : zM_weights_76_99 x2 x3 I = some q) : iq_Cc 6 283 [.ref 76, .ref 99, .int x2, .int x3] (iq_sh l, I, J, X) (.inl (some (.int q.1)), (iq_sh l, q.2, J, X)) := by
  refine iq_Cc_of (L := [some (.ref 76), some (.ref 99), some (.int x2), some (.int x3), none, none, none]) rfl rfl ?_
  unfold zM_weights_76_99 at h
  refine iq_G_go (k := 3) (σ' := (3, [some (.ref 76), some (.ref 99), some (.int x2), some (.int x3), none, none, none], [.int x3, .ref 99, .ref 76], (iq_sh l, I, J, X))) (fun _ => rfl) ?_
  obtain ⟨q1, hq1, h⟩ := iq_bnd h
  refine iq_G_call (σ' := (6, [some (.ref 76), some (.ref 99), some (.int x2), some (.int x3), none, none, none], [.int q1], (iq_sh l, I, J, X))) (fun _ => rfl) (zM_stateNow_76_99_ok l x3 I J X hq1) rfl rfl ?_
  refine iq_G_go (k := 5) (σ' := (14, [some (.ref 76), some (.ref 99), some (.int x2), some (.int x3), some (.int q1), some (.int (0 : Int32)), some (.int (0 : Int32))], [], (iq_sh l, I, J, X))) (fun _ => rfl) ?_
  obtain ⟨w3, hw3, h⟩ := iq_bnd h
  refine iq_G_fg (L := [some (.ref 76), some (.ref 99), some (.int x2), some (.int x3), some (.int q1), some (.int (0 : Int32)), some (.int (0 : Int32))]) (And.intro rfl (And.intro rfl (And.intro rfl (And.intro rfl (And.intro rfl (And.intro rfl (And.intro rfl trivial))))))) ?_
  refine zM_weights_76_99_l14_ok l x2 x3 q1 J X hw3 _ ?_
  show iq_Gg 5 283 (45, [none, none, none, none, none, some (.int w3.1), none], [], (iq_sh l, w3.2, J, X)) _
  refine iq_G_go (k := 1) (σ' := (47, [none, none, none, none, none, some (.int w3.1), none], [.int w3.1], (iq_sh l, w3.2, J, X))) (fun _ => rfl) ?_
  cases h
  exact iq_G_ret (fun _ => rfl)
set_option maxRecDepth 100000 in
theorem zM_puts0_76_99_l5_bok (l : Nat)  (x2 : Int32) (x3 : Int32) (x4 : Int32) (J : iq_J) (X : iq_X) (x5 : Int32) (I : iq_I) {q : (Int32 × iq_I) ⊕ (iq_I)} (h : zM_puts0_76_99_l5_b x2 x3 x4 x5 I = some q) (r : iq_R × iq_M) (hc : ∀ v, q = .inl v → iq_Gg 0 265 (5, [none, some (.ref 99), some (.int x2), some (.int x3), some (.int x4), some (.int v.1)], [], (iq_sh l, v.2, J, X)) r) (hx : ∀ w, q = .inr w → iq_Gg 0 265 (43, [none, some (.ref 99), some (.int x2), some (.int x3), some (.int x4), none], [], (iq_sh l, w, J, X)) r) : iq_Gg 0 265 (5, [none, some (.ref 99), some (.int x2), some (.int x3), some (.int x4), some (.int x5)], [], (iq_sh l, I, J, X)) r := by
  unfold zM_puts0_76_99_l5_b at h
  refine iq_G_go (k := 2) (σ' := (8, [none, some (.ref 99), some (.int x2), some (.int x3), some (.int x4), some (.int x5)], [.int x3, .int x5], (iq_sh l, I, J, X))) (fun _ => rfl) ?_
  rcases iq_ite h with ⟨hc_, h⟩ | ⟨hc_, h⟩
  · refine iq_G_pos (c := x5 ≤ x3) (σ1 := (43, [none, some (.ref 99), some (.int x2), some (.int x3), some (.int x4), some (.int x5)], [], (iq_sh l, I, J, X))) (fun _ => rfl) hc_ ?_
    cases h
    exact iq_G_fg (L := [none, some (.ref 99), some (.int x2), some (.int x3), some (.int x4), none]) (And.intro rfl (And.intro rfl (And.intro rfl (And.intro rfl trivial)))) (hx I rfl)
  · refine iq_G_neg (c := x5 ≤ x3) (σ1 := (11, [none, some (.ref 99), some (.int x2), some (.int x3), some (.int x4), some (.int x5)], [], (iq_sh l, I, J, X))) (fun _ => rfl) hc_ ?_
    refine iq_G_go (k := 18) (σ' := (35, [none, some (.ref 99), some (.int x2), some (.int x3), some (.int x4), some (.int x5)], [.int ((((6 : Int32) + ((40 : Int32) * x2)) + x5) - (1 : Int32)), .ref 99, .int (((6 : Int32) + ((40 : Int32) * x2)) + x5), .ref 99], (iq_sh l, I, J, X))) (fun _ => rfl) ?_
    obtain ⟨hc_, h⟩ := iq_itn h
    have st_ : ∀ (z_0 : Int32) (r_ : iq_R × iq_M), iq_in z_0 206 → iq_Gg 0 265 (36, [none, some (.ref 99), some (.int x2), some (.int x3), some (.int x4), some (.int x5)], [.int (I 99 (Int32.toNatClampNeg z_0)), .int (((6 : Int32) + ((40 : Int32) * x2)) + x5), .ref 99], (iq_sh l, I, J, X)) r_ → iq_Gg 0 265 (35, [none, some (.ref 99), some (.int x2), some (.int x3), some (.int x4), some (.int x5)], [.int z_0, .ref 99, .int (((6 : Int32) + ((40 : Int32) * x2)) + x5), .ref 99], (iq_sh l, I, J, X)) r_ := fun z_0 r_ hc_ hg_ => iq_G_pos (c := iq_in z_0 206) (σ1 := (36, [none, some (.ref 99), some (.int x2), some (.int x3), some (.int x4), some (.int x5)], [.int (I 99 (Int32.toNatClampNeg z_0)), .int (((6 : Int32) + ((40 : Int32) * x2)) + x5), .ref 99], (iq_sh l, I, J, X))) (fun _ => rfl) hc_ hg_
    refine st_ ((((6 : Int32) + ((40 : Int32) * x2)) + x5) - (1 : Int32)) _ hc_ ?_
    clear st_
    obtain ⟨hc_, h⟩ := iq_itn h
    refine iq_G_pos (c := iq_in (((6 : Int32) + ((40 : Int32) * x2)) + x5) 206) (σ1 := (37, [none, some (.ref 99), some (.int x2), some (.int x3), some (.int x4), some (.int x5)], [], (iq_sh l, (iq_upI I 99 (Int32.toNatClampNeg (((6 : Int32) + ((40 : Int32) * x2)) + x5)) (I 99 (Int32.toNatClampNeg ((((6 : Int32) + ((40 : Int32) * x2)) + x5) - (1 : Int32))))), J, X))) (fun _ => rfl) hc_ ?_
    obtain ⟨I1, eI1, h⟩ := ir_letG h
    rw [← eI1]
    clear eI1
    refine iq_G_go (k := 2) (σ' := (5, [none, some (.ref 99), some (.int x2), some (.int x3), some (.int x4), some (.int (x5 + (-1 : Int32)))], [], (iq_sh l, I1, J, X))) (fun _ => rfl) ?_
    cases h
    exact iq_G_fg (L := [none, some (.ref 99), some (.int x2), some (.int x3), some (.int x4), some (.int (x5 + (-1 : Int32)))]) (And.intro rfl (And.intro rfl (And.intro rfl (And.intro rfl (And.intro rfl trivial))))) (hc ((x5 + (-1 : Int32)), I1) rfl)
set_option maxRecDepth 100000 in
theorem zM_puts0_76_99_l5_ok (l : Nat)  (x2 : Int32) (x3 : Int32) (x4 : Int32) (J : iq_J) (X : iq_X) {n : Nat} {v : Int32 × iq_I} {w : iq_I} (h : zM_puts0_76_99_l5 x2 x3 x4 n v = some w) (r : iq_R × iq_M) (hq : iq_Gg 0 265 (43, [none, some (.ref 99), some (.int x2), some (.int x3), some (.int x4), none], [], (iq_sh l, w, J, X)) r) : iq_Gg 0 265 (5, [none, some (.ref 99), some (.int x2), some (.int x3), some (.int x4), some (.int v.1)], [], (iq_sh l, v.2, J, X)) r :=
  iq_lp_ok (σ := fun v => (5, [none, some (.ref 99), some (.int x2), some (.int x3), some (.int x4), some (.int v.1)], [], (iq_sh l, v.2, J, X))) (Q := fun w r => iq_Gg 0 265 (43, [none, some (.ref 99), some (.int x2), some (.int x3), some (.int x4), none], [], (iq_sh l, w, J, X)) r) (fun v q hv r h1 h2 => zM_puts0_76_99_l5_bok l x2 x3 x4 J X v.1 v.2 hv r h1 h2) h r hq
set_option maxRecDepth 100000 in
theorem zM_puts0_76_99_ok (l : Nat)  (x2 : Int32) (x3 : Int32) (x4 : Int32) (I : iq_I) (J : iq_J) (X : iq_X) {q : iq_I} (h : zM_puts0_76_99 x2 x3 x4 I = some q) : iq_Cc 1 265 [.ref 76, .ref 99, .int x2, .int x3, .int x4] (iq_sh l, I, J, X) (.inl none, (iq_sh l, q, J, X)) := by
  refine iq_Cc_of (L := [some (.ref 76), some (.ref 99), some (.int x2), some (.int x3), some (.int x4), none]) rfl rfl ?_
  unfold zM_puts0_76_99 at h
  refine iq_G_go (k := 2) (σ' := (2, [some (.ref 76), some (.ref 99), some (.int x2), some (.int x3), some (.int x4), none], [.int x2, .ref 99], (iq_sh l, I, J, X))) (fun _ => rfl) ?_
  obtain ⟨hc_, h⟩ := iq_itn h
  refine iq_G_pos (c := iq_in x2 206) (σ1 := (3, [some (.ref 76), some (.ref 99), some (.int x2), some (.int x3), some (.int x4), none], [.int (I 99 (Int32.toNatClampNeg x2))], (iq_sh l, I, J, X))) (fun _ => rfl) hc_ ?_
  refine iq_G_go (k := 1) (σ' := (5, [some (.ref 76), some (.ref 99), some (.int x2), some (.int x3), some (.int x4), some (.int (I 99 (Int32.toNatClampNeg x2)))], [], (iq_sh l, I, J, X))) (fun _ => rfl) ?_
  obtain ⟨w2, hw2, h⟩ := iq_bnd h
  refine iq_G_fg (L := [none, some (.ref 99), some (.int x2), some (.int x3), some (.int x4), some (.int (I 99 (Int32.toNatClampNeg x2)))]) (And.intro rfl (And.intro rfl (And.intro rfl (And.intro rfl (And.intro rfl trivial))))) ?_
  refine zM_puts0_76_99_l5_ok l x2 x3 x4 J X hw2 _ ?_
  show iq_Gg 0 265 (43, [none, some (.ref 99), some (.int x2), some (.int x3), some (.int x4), none], [], (iq_sh l, w2, J, X)) _
  refine iq_G_go (k := 9) (σ' := (55, [none, some (.ref 99), some (.int x2), some (.int x3), some (.int x4), none], [.int x4, .int (((6 : Int32) + ((40 : Int32) * x2)) + x3), .ref 99], (iq_sh l, w2, J, X))) (fun _ => rfl) ?_
  obtain ⟨hc_, h⟩ := iq_itn h
  refine iq_G_pos (c := iq_in (((6 : Int32) + ((40 : Int32) * x2)) + x3) 206) (σ1 := (56, [none, some (.ref 99), some (.int x2), some (.int x3), some (.int x4), none], [], (iq_sh l, (iq_upI w2 99 (Int32.toNatClampNeg (((6 : Int32) + ((40 : Int32) * x2)) + x3)) x4), J, X))) (fun _ => rfl) hc_ ?_
  obtain ⟨I3, eI3, h⟩ := ir_letG h
  rw [← eI3]
  clear eI3
  refine iq_G_go (k := 3) (σ' := (59, [none, some (.ref 99), some (.int x2), some (.int x3), some (.int x4), none], [.int x2, .ref 99, .int x2, .ref 99], (iq_sh l, I3, J, X))) (fun _ => rfl) ?_
  obtain ⟨hc_, h⟩ := iq_itn h
  refine iq_G_pos (c := iq_in x2 206) (σ1 := (60, [none, some (.ref 99), some (.int x2), some (.int x3), some (.int x4), none], [.int (I3 99 (Int32.toNatClampNeg x2)), .int x2, .ref 99], (iq_sh l, I3, J, X))) (fun _ => rfl) hc_ ?_
  refine iq_G_go (k := 2) (σ' := (62, [none, some (.ref 99), some (.int x2), some (.int x3), some (.int x4), none], [.int ((I3 99 (Int32.toNatClampNeg x2)) + (1 : Int32)), .int x2, .ref 99], (iq_sh l, I3, J, X))) (fun _ => rfl) ?_
  obtain ⟨hc_, h⟩ := iq_itn h
  refine iq_G_pos (c := iq_in x2 206) (σ1 := (63, [none, some (.ref 99), some (.int x2), some (.int x3), some (.int x4), none], [], (iq_sh l, (iq_upI I3 99 (Int32.toNatClampNeg x2) ((I3 99 (Int32.toNatClampNeg x2)) + (1 : Int32))), J, X))) (fun _ => rfl) hc_ ?_
  obtain ⟨I4, eI4, h⟩ := ir_letG h
  rw [← eI4]
  clear eI4
  cases h
  exact iq_G_ret (fun _ => rfl)

