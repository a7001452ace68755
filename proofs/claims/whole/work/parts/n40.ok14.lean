/-! ===== the abstract machine does the same (printed by wip/whole/emitall.py, split.py) ===== -/
set_option maxRecDepth 100000 in
theorem zT_number_l7_bok (l : Nat)   (I : iq_I) (J : iq_J) (X : iq_X) (x1 : Int32) (x2 : Int32)  {q : (Int32 × Int32) ⊕ (Int32)} (h : zT_number_l7_b I x1 x2 = some q) (r : iq_R × iq_M) (hc : ∀ v, q = .inl v → iq_Gg 0 144 (7, [some (.ref 62), some (.int v.1), some (.int v.2)], [], (iq_sh l, I, J, X)) r) (hx : ∀ w, q = .inr w → iq_Gg 0 144 (44, [none, some (.int w), none], [], (iq_sh l, I, J, X)) r) : iq_Gg 0 144 (7, [some (.ref 62), some (.int x1), some (.int x2)], [], (iq_sh l, I, J, X)) r := by
  unfold zT_number_l7_b at h
  refine iq_G_go (k := 3) (σ' := (12, [some (.ref 62), some (.int x1), some (.int x2)], [.int (I 62 4), .int x2], (iq_sh l, I, J, X))) (fun _ => rfl) ?_
  rcases iq_ite h with ⟨hc_, h⟩ | ⟨hc_, h⟩
  · refine iq_G_pos (c := (I 62 4) ≤ x2) (σ1 := (44, [some (.ref 62), some (.int x1), some (.int x2)], [], (iq_sh l, I, J, X))) (fun _ => rfl) hc_ ?_
    cases h
    exact iq_G_fg (L := [none, some (.int x1), none]) (And.intro rfl trivial) (hx x1 rfl)
  · refine iq_G_neg (c := (I 62 4) ≤ x2) (σ1 := (15, [some (.ref 62), some (.int x1), some (.int x2)], [], (iq_sh l, I, J, X))) (fun _ => rfl) hc_ ?_
    refine iq_G_go (k := 3) (σ' := (20, [some (.ref 62), some (.int x1), some (.int x2)], [.int (I 62 3), .int x2], (iq_sh l, I, J, X))) (fun _ => rfl) ?_
    rcases iq_ite h with ⟨hc_, h⟩ | ⟨hc_, h⟩
    · refine iq_G_pos (c := (I 62 3) ≤ x2) (σ1 := (44, [some (.ref 62), some (.int x1), some (.int x2)], [], (iq_sh l, I, J, X))) (fun _ => rfl) hc_ ?_
      cases h
      exact iq_G_fg (L := [none, some (.int x1), none]) (And.intro rfl trivial) (hx x1 rfl)
    · refine iq_G_neg (c := (I 62 3) ≤ x2) (σ1 := (23, [some (.ref 62), some (.int x1), some (.int x2)], [], (iq_sh l, I, J, X))) (fun _ => rfl) hc_ ?_
      refine iq_G_go (k := 6) (σ' := (32, [some (.ref 62), some (.int x1), some (.int x2)], [.int x2, .ref 2, .int (x1 * (10 : Int32))], (iq_sh l, I, J, X))) (fun _ => rfl) ?_
      obtain ⟨hc_, h⟩ := iq_itn h
      refine iq_G_pos (c := iq_in x2 700) (σ1 := (33, [some (.ref 62), some (.int x1), some (.int x2)], [.int (I 2 (Int32.toNatClampNeg x2)), .int (x1 * (10 : Int32))], (iq_sh l, I, J, X))) (fun _ => rfl) hc_ ?_
      refine iq_G_go (k := 6) (σ' := (7, [some (.ref 62), some (.int (((x1 * (10 : Int32)) + (I 2 (Int32.toNatClampNeg x2))) - (48 : Int32))), some (.int (x2 + (1 : Int32)))], [], (iq_sh l, I, J, X))) (fun _ => rfl) ?_
      cases h
      exact iq_G_fg (L := [some (.ref 62), some (.int (((x1 * (10 : Int32)) + (I 2 (Int32.toNatClampNeg x2))) - (48 : Int32))), some (.int (x2 + (1 : Int32)))]) (And.intro rfl (And.intro rfl (And.intro rfl trivial))) (hc ((((x1 * (10 : Int32)) + (I 2 (Int32.toNatClampNeg x2))) - (48 : Int32)), (x2 + (1 : Int32))) rfl)
set_option maxRecDepth 100000 in
theorem zT_number_l7_ok (l : Nat)   (I : iq_I) (J : iq_J) (X : iq_X) {n : Nat} {v : Int32 × Int32} {w : Int32} (h : zT_number_l7 I n v = some w) (r : iq_R × iq_M) (hq : iq_Gg 0 144 (44, [none, some (.int w), none], [], (iq_sh l, I, J, X)) r) : iq_Gg 0 144 (7, [some (.ref 62), some (.int v.1), some (.int v.2)], [], (iq_sh l, I, J, X)) r :=
  iq_lp_ok (σ := fun v => (7, [some (.ref 62), some (.int v.1), some (.int v.2)], [], (iq_sh l, I, J, X))) (Q := fun w r => iq_Gg 0 144 (44, [none, some (.int w), none], [], (iq_sh l, I, J, X)) r) (fun v q hv r h1 h2 => zT_number_l7_bok l I J X v.1 v.2 hv r h1 h2) h r hq
set_option maxRecDepth 100000 in
theorem zT_number_ok (l : Nat)   (I : iq_I) (J : iq_J) (X : iq_X) {q : Int32} (h : zT_number I = some q) : iq_Cc 1 144 [.ref 62] (iq_sh l, I, J, X) (.inl (some (.int q)), (iq_sh l, I, J, X)) := by
  refine iq_Cc_of (L := [some (.ref 62), none, none]) rfl rfl ?_
  unfold zT_number at h
  refine iq_G_go (k := 5) (σ' := (7, [some (.ref 62), some (.int (0 : Int32)), some (.int (I 62 1))], [], (iq_sh l, I, J, X))) (fun _ => rfl) ?_
  obtain ⟨w1, hw1, h⟩ := iq_bnd h
  refine iq_G_fg (L := [some (.ref 62), some (.int (0 : Int32)), some (.int (I 62 1))]) (And.intro rfl (And.intro rfl (And.intro rfl trivial))) ?_
  refine zT_number_l7_ok l I J X hw1 _ ?_
  show iq_Gg 0 144 (44, [none, some (.int w1), none], [], (iq_sh l, I, J, X)) _
  refine iq_G_go (k := 1) (σ' := (45, [none, some (.int w1), none], [.int w1], (iq_sh l, I, J, X))) (fun _ => rfl) ?_
  cases h
  exact iq_G_ret (fun _ => rfl)
set_option maxRecDepth 100000 in
theorem zR_isNumberTo_39_ok (l : Nat)   (I : iq_I) (J : iq_J) (X : iq_X)  {q : Int32 × iq_I} (h : zR_isNumberTo_39 I = some q)  : iq_Gg 1 108 (39, [some (.ref 61), none], [], (iq_sh l, I, J, X)) (.inl (some (.int q.1)), (iq_sh l, q.2, J, X)) := by
  unfold zR_isNumberTo_39 at h
  refine iq_G_go (k := 2) (σ' := (41, [some (.ref 61), none], [.int (2 : Int32), .ref 61], (iq_sh l, I, J, X))) (fun _ => rfl) ?_
  obtain ⟨q2, hq2, h⟩ := iq_bnd h
  refine iq_G_call (σ' := (44, [some (.ref 61), none], [.int q2.1], (iq_sh l, q2.2, J, X))) (fun _ => rfl) (zR_refuse_ok l (2 : Int32) I J X hq2) rfl rfl ?_
  obtain ⟨hc_, h⟩ := iq_itn h
  have h := Option.some.inj h
  subst h
  exact iq_G_rif (c := q2.1 = 0 ∨ q2.1 = 1) (fun _ => rfl) hc_
set_option maxRecDepth 100000 in
theorem zR_isNumberTo_ok (l : Nat)  (x1 : Int32) (I : iq_I) (J : iq_J) (X : iq_X) {q : Int32 × iq_I} (h : zR_isNumberTo x1 I = some q) : iq_Cc 2 108 [.ref 61, .int x1] (iq_sh l, I, J, X) (.inl (some (.int q.1)), (iq_sh l, q.2, J, X)) := by
  refine iq_Cc_of (L := [some (.ref 61), some (.int x1)]) rfl rfl ?_
  unfold zR_isNumberTo at h
  refine iq_G_go (k := 4) (σ' := (8, [some (.ref 61), some (.int x1)], [.int (2 : Int32), .int (I 62 0)], (iq_sh l, I, J, X))) (fun _ => rfl) ?_
  rcases iq_ite h with ⟨hc_, h⟩ | ⟨hc_, h⟩
  · refine iq_G_pos (c := (I 62 0) = (2 : Int32)) (σ1 := (17, [some (.ref 61), some (.int x1)], [], (iq_sh l, I, J, X))) (fun _ => rfl) hc_ ?_
    refine iq_G_go (k := 2) (σ' := (21, [some (.ref 61), some (.int x1)], [.ref 62], (iq_sh l, I, J, X))) (fun _ => rfl) ?_
    obtain ⟨q1, hq1, h⟩ := iq_bnd h
    refine iq_G_call (σ' := (24, [some (.ref 61), some (.int x1)], [.int q1], (iq_sh l, I, J, X))) (fun _ => rfl) (zT_size_ok l  I J X hq1) rfl rfl ?_
    refine iq_G_go (k := 1) (σ' := (25, [some (.ref 61), some (.int x1)], [.int (4 : Int32), .int q1], (iq_sh l, I, J, X))) (fun _ => rfl) ?_
    rcases iq_ite h with ⟨hc_, h⟩ | ⟨hc_, h⟩
    · refine iq_G_pos (c := (4 : Int32) < q1) (σ1 := (39, [some (.ref 61), some (.int x1)], [], (iq_sh l, I, J, X))) (fun _ => rfl) hc_ ?_
      exact iq_G_fg (L := [some (.ref 61), none]) (And.intro rfl trivial) (zR_isNumberTo_39_ok l I J X  h )
    · refine iq_G_neg (c := (4 : Int32) < q1) (σ1 := (28, [some (.ref 61), some (.int x1)], [], (iq_sh l, I, J, X))) (fun _ => rfl) hc_ ?_
      refine iq_G_go (k := 2) (σ' := (32, [some (.ref 61), some (.int x1)], [.ref 62], (iq_sh l, I, J, X))) (fun _ => rfl) ?_
      obtain ⟨q3, hq3, h⟩ := iq_bnd h
      refine iq_G_call (σ' := (35, [some (.ref 61), some (.int x1)], [.int q3], (iq_sh l, I, J, X))) (fun _ => rfl) (zT_number_ok l  I J X hq3) rfl rfl ?_
      refine iq_G_go (k := 1) (σ' := (36, [some (.ref 61), some (.int x1)], [.int x1, .int q3], (iq_sh l, I, J, X))) (fun _ => rfl) ?_
      rcases iq_ite h with ⟨hc_, h⟩ | ⟨hc_, h⟩
      · refine iq_G_pos (c := q3 ≤ x1) (σ1 := (45, [some (.ref 61), some (.int x1)], [], (iq_sh l, I, J, X))) (fun _ => rfl) hc_ ?_
        refine iq_G_go (k := 1) (σ' := (46, [some (.ref 61), some (.int x1)], [.int (1 : Int32)], (iq_sh l, I, J, X))) (fun _ => rfl) ?_
        cases h
        exact iq_G_ret (fun _ => rfl)
      · refine iq_G_neg (c := q3 ≤ x1) (σ1 := (39, [some (.ref 61), some (.int x1)], [], (iq_sh l, I, J, X))) (fun _ => rfl) hc_ ?_
        exact iq_G_fg (L := [some (.ref 61), none]) (And.intro rfl trivial) (zR_isNumberTo_39_ok l I J X  h )
  · refine iq_G_neg (c := (I 62 0) = (2 : Int32)) (σ1 := (11, [some (.ref 61), some (.int x1)], [], (iq_sh l, I, J, X))) (fun _ => rfl) hc_ ?_
    refine iq_G_go (k := 2) (σ' := (13, [some (.ref 61), some (.int x1)], [.int (1 : Int32), .ref 61], (iq_sh l, I, J, X))) (fun _ => rfl) ?_
    obtain ⟨q4, hq4, h⟩ := iq_bnd h
    refine iq_G_call (σ' := (16, [some (.ref 61), some (.int x1)], [.int q4.1], (iq_sh l, q4.2, J, X))) (fun _ => rfl) (zR_refuse_ok l (1 : Int32) I J X hq4) rfl rfl ?_
    obtain ⟨hc_, h⟩ := iq_itn h
    have h := Option.some.inj h
    subst h
    exact iq_G_rif (c := q4.1 = 0 ∨ q4.1 = 1) (fun _ => rfl) hc_
set_option maxRecDepth 100000 in
theorem zU_putWord_ok (l : Nat)  (x1 : Int32) (x2 : Int32) (I : iq_I) (J : iq_J) (X : iq_X) {q : iq_I} (h : zU_putWord x1 x2 I = some q) : iq_Cc 1 39 [.ref 38, .int x1, .int x2] (iq_sh l, I, J, X) (.inl none, (iq_sh l, q, J, X)) := by
  refine iq_Cc_of (L := [some (.ref 38), some (.int x1), some (.int x2)]) rfl rfl ?_
  unfold zU_putWord at h
  refine iq_G_go (k := 3) (σ' := (6, [some (.ref 38), some (.int x1), some (.int x2)], [.int (14 : Int32), .int (I 38 2)], (iq_sh l, I, J, X))) (fun _ => rfl) ?_
  rcases iq_ite h with ⟨hc_, h⟩ | ⟨hc_, h⟩
  · refine iq_G_pos (c := (14 : Int32) ≤ (I 38 2)) (σ1 := (71, [some (.ref 38), some (.int x1), some (.int x2)], [], (iq_sh l, I, J, X))) (fun _ => rfl) hc_ ?_
    cases h
    exact iq_G_ret (fun _ => rfl)
  · refine iq_G_neg (c := (14 : Int32) ≤ (I 38 2)) (σ1 := (9, [some (.ref 38), some (.int x1), some (.int x2)], [], (iq_sh l, I, J, X))) (fun _ => rfl) hc_ ?_
    refine iq_G_go (k := 1) (σ' := (10, [some (.ref 38), some (.int x1), some (.int x2)], [.int x2], (iq_sh l, I, J, X))) (fun _ => rfl) ?_
    rcases iq_ite h with ⟨hc_, h⟩ | ⟨hc_, h⟩
    · refine iq_G_pos (c := x2 < 0) (σ1 := (71, [some (.ref 38), some (.int x1), some (.int x2)], [], (iq_sh l, I, J, X))) (fun _ => rfl) hc_ ?_
      cases h
      exact iq_G_ret (fun _ => rfl)
    · refine iq_G_neg (c := x2 < 0) (σ1 := (13, [some (.ref 38), some (.int x1), some (.int x2)], [], (iq_sh l, I, J, X))) (fun _ => rfl) hc_ ?_
      refine iq_G_go (k := 2) (σ' := (16, [some (.ref 38), some (.int x1), some (.int x2)], [.int (8 : Int32), .int x2], (iq_sh l, I, J, X))) (fun _ => rfl) ?_
      rcases iq_ite h with ⟨hc_, h⟩ | ⟨hc_, h⟩
      · refine iq_G_pos (c := (8 : Int32) ≤ x2) (σ1 := (71, [some (.ref 38), some (.int x1), some (.int x2)], [], (iq_sh l, I, J, X))) (fun _ => rfl) hc_ ?_
        cases h
        exact iq_G_ret (fun _ => rfl)
      · refine iq_G_neg (c := (8 : Int32) ≤ x2) (σ1 := (19, [some (.ref 38), some (.int x1), some (.int x2)], [], (iq_sh l, I, J, X))) (fun _ => rfl) hc_ ?_
        refine iq_G_go (k := 5) (σ' := (28, [some (.ref 38), some (.int x1), some (.int x2)], [.int x1, .int (I 38 2), .ref 39], (iq_sh l, I, J, X))) (fun _ => rfl) ?_
        obtain ⟨hc_, h⟩ := iq_itn h
        refine iq_G_pos (c := iq_in (I 38 2) 14) (σ1 := (29, [some (.ref 38), some (.int x1), some (.int x2)], [], (iq_sh l, (iq_upI I 39 (Int32.toNatClampNeg (I 38 2)) x1), J, X))) (fun _ => rfl) hc_ ?_
        obtain ⟨I1, eI1, h⟩ := ir_letG h
        rw [← eI1]
        clear eI1
        refine iq_G_go (k := 5) (σ' := (38, [some (.ref 38), some (.int x1), some (.int x2)], [.int x2, .int (I1 38 2), .ref 40], (iq_sh l, I1, J, X))) (fun _ => rfl) ?_
        obtain ⟨hc_, h⟩ := iq_itn h
        refine iq_G_pos (c := iq_in (I1 38 2) 14) (σ1 := (39, [some (.ref 38), some (.int x1), some (.int x2)], [], (iq_sh l, (iq_upI I1 40 (Int32.toNatClampNeg (I1 38 2)) x2), J, X))) (fun _ => rfl) hc_ ?_
        obtain ⟨I2, eI2, h⟩ := ir_letG h
        rw [← eI2]
        clear eI2
        refine iq_G_go (k := 4) (σ' := (45, [some (.ref 38), some (.int x1), some (.int x2)], [.int x2, .ref 41, .int x2, .ref 41], (iq_sh l, I2, J, X))) (fun _ => rfl) ?_
        obtain ⟨hc_, h⟩ := iq_itn h
        refine iq_G_pos (c := iq_in x2 8) (σ1 := (46, [some (.ref 38), some (.int x1), some (.int x2)], [.int (I2 41 (Int32.toNatClampNeg x2)), .int x2, .ref 41], (iq_sh l, I2, J, X))) (fun _ => rfl) hc_ ?_
        refine iq_G_go (k := 2) (σ' := (48, [some (.ref 38), some (.int x1), some (.int x2)], [.int ((I2 41 (Int32.toNatClampNeg x2)) + (1 : Int32)), .int x2, .ref 41], (iq_sh l, I2, J, X))) (fun _ => rfl) ?_
        obtain ⟨hc_, h⟩ := iq_itn h
        refine iq_G_pos (c := iq_in x2 8) (σ1 := (49, [some (.ref 38), some (.int x1), some (.int x2)], [], (iq_sh l, (iq_upI I2 41 (Int32.toNatClampNeg x2) ((I2 41 (Int32.toNatClampNeg x2)) + (1 : Int32))), J, X))) (fun _ => rfl) hc_ ?_
        obtain ⟨I3, eI3, h⟩ := ir_letG h
        rw [← eI3]
        clear eI3
        refine iq_G_go (k := 7) (σ' := (58, [some (.ref 38), some (.int x1), some (.int x2)], [.int ((I3 38 4) ||| ((1 : Int32) <<< (x2 &&& 31))), .ref 38], (iq_sh l, I3, J, X))) (fun _ => rfl) ?_
        refine iq_G_go (k := 1) (σ' := (61, [some (.ref 38), some (.int x1), some (.int x2)], [], (iq_sh l, (iq_upI I3 38 4 ((I3 38 4) ||| ((1 : Int32) <<< (x2 &&& 31)))), J, X))) (fun _ => rfl) ?_
        obtain ⟨I4, eI4, h⟩ := ir_letG h
        rw [← eI4]
        clear eI4
        refine iq_G_go (k := 5) (σ' := (68, [some (.ref 38), some (.int x1), some (.int x2)], [.int ((I4 38 2) + (1 : Int32)), .ref 38], (iq_sh l, I4, J, X))) (fun _ => rfl) ?_
        refine iq_G_go (k := 1) (σ' := (71, [some (.ref 38), some (.int x1), some (.int x2)], [], (iq_sh l, (iq_upI I4 38 2 ((I4 38 2) + (1 : Int32))), J, X))) (fun _ => rfl) ?_
        obtain ⟨I5, eI5, h⟩ := ir_letG h
        rw [← eI5]
        clear eI5
        cases h
        exact iq_G_ret (fun _ => rfl)
set_option maxRecDepth 100000 in
theorem zR_readWord_l77_bok (l : Nat)  (x1 : Int32) (J : iq_J) (X : iq_X) (x2 : Int32) (I : iq_I) {q : (Int32 × iq_I) ⊕ (iq_I)} (h : zR_readWord_l77_b x1 x2 I = some q) (r : iq_R × iq_M) (hc : ∀ v, q = .inl v → iq_Gg 6 88 (77, [some (.ref 61), some (.int x1), some (.int v.1)], [], (iq_sh l, v.2, J, X)) r) (hx : ∀ w, q = .inr w → iq_Gg 6 88 (111, [some (.ref 61), some (.int x1), none], [], (iq_sh l, w, J, X)) r) : iq_Gg 6 88 (77, [some (.ref 61), some (.int x1), some (.int x2)], [], (iq_sh l, I, J, X)) r := by
  unfold zR_readWord_l77_b at h
  refine iq_G_go (k := 2) (σ' := (79, [some (.ref 61), some (.int x1), some (.int x2)], [.int x1, .int x2], (iq_sh l, I, J, X))) (fun _ => rfl) ?_
  rcases iq_ite h with ⟨hc_, h⟩ | ⟨hc_, h⟩
  · refine iq_G_pos (c := x1 ≤ x2) (σ1 := (111, [some (.ref 61), some (.int x1), some (.int x2)], [], (iq_sh l, I, J, X))) (fun _ => rfl) hc_ ?_
    cases h
    exact iq_G_fg (L := [some (.ref 61), some (.int x1), none]) (And.intro rfl (And.intro rfl trivial)) (hx I rfl)
  · refine iq_G_neg (c := x1 ≤ x2) (σ1 := (82, [some (.ref 61), some (.int x1), some (.int x2)], [], (iq_sh l, I, J, X))) (fun _ => rfl) hc_ ?_
    refine iq_G_go (k := 9) (σ' := (99, [some (.ref 61), some (.int x1), some (.int x2)], [.int x2, .ref 62, .int x2, .int (I 38 2), .ref 38], (iq_sh l, I, J, X))) (fun _ => rfl) ?_
    obtain ⟨q4, hq4, h⟩ := iq_bnd h
    refine iq_G_call (σ' := (102, [some (.ref 61), some (.int x1), some (.int x2)], [.int q4, .int x2, .int (I 38 2), .ref 38], (iq_sh l, I, J, X))) (fun _ => rfl) (zT_letterNumber_ok l x2 I J X hq4) rfl rfl ?_
    obtain ⟨q5, hq5, h⟩ := iq_bnd h
    refine iq_G_call (σ' := (105, [some (.ref 61), some (.int x1), some (.int x2)], [], (iq_sh l, q5, J, X))) (fun _ => rfl) (zU_putLetter_ok l (I 38 2) x2 q4 I J X hq5) rfl rfl ?_
    refine iq_G_go (k := 2) (σ' := (77, [some (.ref 61), some (.int x1), some (.int (x2 + (1 : Int32)))], [], (iq_sh l, q5, J, X))) (fun _ => rfl) ?_
    cases h
    exact iq_G_fg (L := [some (.ref 61), some (.int x1), some (.int (x2 + (1 : Int32)))]) (And.intro rfl (And.intro rfl (And.intro rfl trivial))) (hc ((x2 + (1 : Int32)), q5) rfl)
set_option maxRecDepth 100000 in
theorem zR_readWord_l77_ok (l : Nat)  (x1 : Int32) (J : iq_J) (X : iq_X) {n : Nat} {v : Int32 × iq_I} {w : iq_I} (h : zR_readWord_l77 x1 n v = some w) (r : iq_R × iq_M) (hq : iq_Gg 6 88 (111, [some (.ref 61), some (.int x1), none], [], (iq_sh l, w, J, X)) r) : iq_Gg 6 88 (77, [some (.ref 61), some (.int x1), some (.int v.1)], [], (iq_sh l, v.2, J, X)) r :=
  iq_lp_ok (σ := fun v => (77, [some (.ref 61), some (.int x1), some (.int v.1)], [], (iq_sh l, v.2, J, X))) (Q := fun w r => iq_Gg 6 88 (111, [some (.ref 61), some (.int x1), none], [], (iq_sh l, w, J, X)) r) (fun v q hv r h1 h2 => zR_readWord_l77_bok l x1 J X v.1 v.2 hv r h1 h2) h r hq
set_option maxRecDepth 100000 in
theorem zR_readWord_ok (l : Nat)   (I : iq_I) (J : iq_J) (X : iq_X) {q : Int32 × iq_I} (h : zR_readWord I = some q) : iq_Cc 7 88 [.ref 61] (iq_sh l, I, J, X) (.inl (some (.int q.1)), (iq_sh l, q.2, J, X)) := by
  refine iq_Cc_of (L := [some (.ref 61), none, none]) rfl rfl ?_
  unfold zR_readWord at h
  refine iq_G_go (k := 4) (σ' := (9, [some (.ref 61), none, none], [.int (14 : Int32), .int (I 38 2)], (iq_sh l, I, J, X))) (fun _ => rfl) ?_
  rcases iq_ite h with ⟨hc_, h⟩ | ⟨hc_, h⟩
  · refine iq_G_pos (c := (I 38 2) < (14 : Int32)) (σ1 := (18, [some (.ref 61), none, none], [], (iq_sh l, I, J, X))) (fun _ => rfl) hc_ ?_
    refine iq_G_go (k := 2) (σ' := (22, [some (.ref 61), none, none], [.ref 62], (iq_sh l, I, J, X))) (fun _ => rfl) ?_
    obtain ⟨q1, hq1, h⟩ := iq_bnd h
    refine iq_G_call (σ' := (25, [some (.ref 61), none, none], [], (iq_sh l, q1, J, X))) (fun _ => rfl) (zT_next_ok l  I J X hq1) rfl rfl ?_
    refine iq_G_go (k := 4) (σ' := (33, [some (.ref 61), none, none], [.int (1 : Int32), .int (q1 62 0)], (iq_sh l, q1, J, X))) (fun _ => rfl) ?_
    rcases iq_ite h with ⟨hc_, h⟩ | ⟨hc_, h⟩
    · refine iq_G_pos (c := (q1 62 0) = (1 : Int32)) (σ1 := (42, [some (.ref 61), none, none], [], (iq_sh l, q1, J, X))) (fun _ => rfl) hc_ ?_
      refine iq_G_go (k := 2) (σ' := (46, [some (.ref 61), none, none], [.ref 62], (iq_sh l, q1, J, X))) (fun _ => rfl) ?_
      obtain ⟨q2, hq2, h⟩ := iq_bnd h
      refine iq_G_call (σ' := (49, [some (.ref 61), none, none], [.int q2], (iq_sh l, q1, J, X))) (fun _ => rfl) (zT_size_ok l  q1 J X hq2) rfl rfl ?_
      refine iq_G_go (k := 3) (σ' := (53, [some (.ref 61), some (.int q2), none], [.int (9 : Int32), .int q2], (iq_sh l, q1, J, X))) (fun _ => rfl) ?_
      rcases iq_ite h with ⟨hc_, h⟩ | ⟨hc_, h⟩
      · refine iq_G_pos (c := q2 ≤ (9 : Int32)) (σ1 := (62, [some (.ref 61), some (.int q2), none], [], (iq_sh l, q1, J, X))) (fun _ => rfl) hc_ ?_
        refine iq_G_go (k := 1) (σ' := (63, [some (.ref 61), some (.int q2), none], [.ref 61], (iq_sh l, q1, J, X))) (fun _ => rfl) ?_
        obtain ⟨q3, hq3, h⟩ := iq_bnd h
        refine iq_G_call (σ' := (66, [some (.ref 61), some (.int q2), none], [.int q3], (iq_sh l, q1, J, X))) (fun _ => rfl) (zR_isToldRow_ok l  q1 J X hq3) rfl rfl ?_
        rcases iq_ite h with ⟨hc_, h⟩ | ⟨hc_, h⟩
        · refine iq_G_pos (c := q3 = 0) (σ1 := (75, [some (.ref 61), some (.int q2), none], [], (iq_sh l, q1, J, X))) (fun _ => rfl) hc_ ?_
          refine iq_G_go (k := 2) (σ' := (77, [some (.ref 61), some (.int q2), some (.int (0 : Int32))], [], (iq_sh l, q1, J, X))) (fun _ => rfl) ?_
          obtain ⟨w6, hw6, h⟩ := iq_bnd h
          refine iq_G_fg (L := [some (.ref 61), some (.int q2), some (.int (0 : Int32))]) (And.intro rfl (And.intro rfl (And.intro rfl trivial))) ?_
          refine zR_readWord_l77_ok l q2 J X hw6 _ ?_
          show iq_Gg 6 88 (111, [some (.ref 61), some (.int q2), none], [], (iq_sh l, w6, J, X)) _
          refine iq_G_go (k := 2) (σ' := (115, [some (.ref 61), some (.int q2), none], [.ref 62], (iq_sh l, w6, J, X))) (fun _ => rfl) ?_
          obtain ⟨q7, hq7, h⟩ := iq_bnd h
          refine iq_G_call (σ' := (118, [some (.ref 61), some (.int q2), none], [], (iq_sh l, q7, J, X))) (fun _ => rfl) (zT_next_ok l  w6 J X hq7) rfl rfl ?_
          refine iq_G_go (k := 2) (σ' := (121, [some (.ref 61), some (.int q2), none], [.int (7 : Int32), .ref 61], (iq_sh l, q7, J, X))) (fun _ => rfl) ?_
          obtain ⟨q8, hq8, h⟩ := iq_bnd h
          refine iq_G_call (σ' := (124, [some (.ref 61), some (.int q2), none], [.int q8.1], (iq_sh l, q8.2, J, X))) (fun _ => rfl) (zR_isNumberTo_ok l (7 : Int32) q7 J X hq8) rfl rfl ?_
          rcases iq_ite h with ⟨hc_, h⟩ | ⟨hc_, h⟩
          · refine iq_G_pos (c := ¬ q8.1 = 0) (σ1 := (129, [some (.ref 61), some (.int q2), none], [], (iq_sh l, q8.2, J, X))) (fun _ => rfl) hc_ ?_
            refine iq_G_go (k := 5) (σ' := (138, [some (.ref 61), some (.int q2), none], [.ref 62, .int q2, .ref 38], (iq_sh l, q8.2, J, X))) (fun _ => rfl) ?_
            obtain ⟨q9, hq9, h⟩ := iq_bnd h
            refine iq_G_call (σ' := (141, [some (.ref 61), some (.int q2), none], [.int q9, .int q2, .ref 38], (iq_sh l, q8.2, J, X))) (fun _ => rfl) (zT_number_ok l  q8.2 J X hq9) rfl rfl ?_
            obtain ⟨q10, hq10, h⟩ := iq_bnd h
            refine iq_G_call (σ' := (144, [some (.ref 61), some (.int q2), none], [], (iq_sh l, q10, J, X))) (fun _ => rfl) (zU_putWord_ok l q2 q9 q8.2 J X hq10) rfl rfl ?_
            refine iq_G_go (k := 2) (σ' := (148, [some (.ref 61), some (.int q2), none], [.ref 62], (iq_sh l, q10, J, X))) (fun _ => rfl) ?_
            obtain ⟨q11, hq11, h⟩ := iq_bnd h
            refine iq_G_call (σ' := (151, [some (.ref 61), some (.int q2), none], [], (iq_sh l, q11, J, X))) (fun _ => rfl) (zT_next_ok l  q10 J X hq11) rfl rfl ?_
            refine iq_G_go (k := 1) (σ' := (152, [some (.ref 61), some (.int q2), none], [.ref 61], (iq_sh l, q11, J, X))) (fun _ => rfl) ?_
            obtain ⟨q12, hq12, h⟩ := iq_bnd h
            refine iq_G_call (σ' := (155, [some (.ref 61), some (.int q2), none], [.int q12.1], (iq_sh l, q12.2, J, X))) (fun _ => rfl) (zR_passLineEnd_ok l  q11 J X hq12) rfl rfl ?_
            obtain ⟨hc_, h⟩ := iq_itn h
            have h := Option.some.inj h
            subst h
            exact iq_G_rif (c := q12.1 = 0 ∨ q12.1 = 1) (fun _ => rfl) hc_
          · refine iq_G_neg (c := ¬ q8.1 = 0) (σ1 := (127, [some (.ref 61), some (.int q2), none], [], (iq_sh l, q8.2, J, X))) (fun _ => rfl) hc_ ?_
            refine iq_G_go (k := 1) (σ' := (128, [some (.ref 61), some (.int q2), none], [.int (0 : Int32)], (iq_sh l, q8.2, J, X))) (fun _ => rfl) ?_
            cases h
            exact iq_G_ret (fun _ => rfl)
        · refine iq_G_neg (c := q3 = 0) (σ1 := (69, [some (.ref 61), some (.int q2), none], [], (iq_sh l, q1, J, X))) (fun _ => rfl) hc_ ?_
          refine iq_G_go (k := 2) (σ' := (71, [some (.ref 61), some (.int q2), none], [.int (4 : Int32), .ref 61], (iq_sh l, q1, J, X))) (fun _ => rfl) ?_
          obtain ⟨q13, hq13, h⟩ := iq_bnd h
          refine iq_G_call (σ' := (74, [some (.ref 61), some (.int q2), none], [.int q13.1], (iq_sh l, q13.2, J, X))) (fun _ => rfl) (zR_refuse_ok l (4 : Int32) q1 J X hq13) rfl rfl ?_
          obtain ⟨hc_, h⟩ := iq_itn h
          have h := Option.some.inj h
          subst h
          exact iq_G_rif (c := q13.1 = 0 ∨ q13.1 = 1) (fun _ => rfl) hc_
      · refine iq_G_neg (c := q2 ≤ (9 : Int32)) (σ1 := (56, [some (.ref 61), some (.int q2), none], [], (iq_sh l, q1, J, X))) (fun _ => rfl) hc_ ?_
        refine iq_G_go (k := 2) (σ' := (58, [some (.ref 61), some (.int q2), none], [.int (2 : Int32), .ref 61], (iq_sh l, q1, J, X))) (fun _ => rfl) ?_
        obtain ⟨q14, hq14, h⟩ := iq_bnd h
        refine iq_G_call (σ' := (61, [some (.ref 61), some (.int q2), none], [.int q14.1], (iq_sh l, q14.2, J, X))) (fun _ => rfl) (zR_refuse_ok l (2 : Int32) q1 J X hq14) rfl rfl ?_
        obtain ⟨hc_, h⟩ := iq_itn h
        have h := Option.some.inj h
        subst h
        exact iq_G_rif (c := q14.1 = 0 ∨ q14.1 = 1) (fun _ => rfl) hc_
    · refine iq_G_neg (c := (q1 62 0) = (1 : Int32)) (σ1 := (36, [some (.ref 61), none, none], [], (iq_sh l, q1, J, X))) (fun _ => rfl) hc_ ?_
      refine iq_G_go (k := 2) (σ' := (38, [some (.ref 61), none, none], [.int (1 : Int32), .ref 61], (iq_sh l, q1, J, X))) (fun _ => rfl) ?_
      obtain ⟨q15, hq15, h⟩ := iq_bnd h
      refine iq_G_call (σ' := (41, [some (.ref 61), none, none], [.int q15.1], (iq_sh l, q15.2, J, X))) (fun _ => rfl) (zR_refuse_ok l (1 : Int32) q1 J X hq15) rfl rfl ?_
      obtain ⟨hc_, h⟩ := iq_itn h
      have h := Option.some.inj h
      subst h
      exact iq_G_rif (c := q15.1 = 0 ∨ q15.1 = 1) (fun _ => rfl) hc_
  · refine iq_G_neg (c := (I 38 2) < (14 : Int32)) (σ1 := (12, [some (.ref 61), none, none], [], (iq_sh l, I, J, X))) (fun _ => rfl) hc_ ?_
    refine iq_G_go (k := 2) (σ' := (14, [some (.ref 61), none, none], [.int (2 : Int32), .ref 61], (iq_sh l, I, J, X))) (fun _ => rfl) ?_
    obtain ⟨q16, hq16, h⟩ := iq_bnd h
    refine iq_G_call (σ' := (17, [some (.ref 61), none, none], [.int q16.1], (iq_sh l, q16.2, J, X))) (fun _ => rfl) (zR_refuse_ok l (2 : Int32) I J X hq16) rfl rfl ?_
    obtain ⟨hc_, h⟩ := iq_itn h
    have h := Option.some.inj h
    subst h
    exact iq_G_rif (c := q16.1 = 0 ∨ q16.1 = 1) (fun _ => rfl) hc_
set_option maxRecDepth 100000 in
theorem zS_J0_coder_7d493_5005_ok (l : Nat)   (I : iq_I) (J : iq_J) (X : iq_X) {q : Int32} (h : zS_J0_coder_7d493_5005 I = some q) : iq_Cc 1 316 [.ref 5005] (iq_sh l, I, J, X) (.inl (some (.int q)), (iq_sh l, I, J, X)) := by
  refine iq_Cc_of (L := [some (.ref 5005)]) rfl rfl ?_
  unfold zS_J0_coder_7d493_5005 at h
  refine iq_G_go (k := 1) (σ' := (3, [some (.ref 5005)], [.int (1 : Int32)], (iq_sh l, I, J, X))) (fun _ => rfl) ?_
  refine iq_G_go (k := 1) (σ' := (6, [some (.ref 5005)], [], (iq_sh l, I, J, X))) (fun _ => rfl) ?_
  refine iq_G_go (k := 3) (σ' := (14, [some (.ref 5005)], [.int (0 : Int32)], (iq_sh l, I, J, X))) (fun _ => rfl) ?_
  cases h
  exact iq_G_ret (fun _ => rfl)
set_option maxRecDepth 100000 in
theorem zS_J0_length_8abf5_5005_ok (l : Nat)   (I : iq_I) (J : iq_J) (X : iq_X) {q : Int32} (h : zS_J0_length_8abf5_5005 I = some q) : iq_Cc 2 312 [.ref 5005] (iq_sh l, I, J, X) (.inl (some (.int q)), (iq_sh l, I, J, X)) := by
  refine iq_Cc_of (L := [some (.ref 5005)]) rfl rfl ?_
  unfold zS_J0_length_8abf5_5005 at h
  refine iq_G_go (k := 4) (σ' := (6, [some (.ref 5005)], [.ref 5005, .int (3 : Int32)], (iq_sh l, I, J, X))) (fun _ => rfl) ?_
  obtain ⟨q1, hq1, h⟩ := iq_bnd h
  refine iq_G_call (σ' := (9, [some (.ref 5005)], [.int q1, .int (3 : Int32)], (iq_sh l, I, J, X))) (fun _ => rfl) (zS_J0_coder_7d493_5005_ok l  I J X hq1) rfl rfl ?_
  refine iq_G_go (k := 1) (σ' := (10, [some (.ref 5005)], [.int ((3 : Int32) >>> (q1 &&& 31))], (iq_sh l, I, J, X))) (fun _ => rfl) ?_
  cases h
  exact iq_G_ret (fun _ => rfl)
set_option maxRecDepth 100000 in
theorem zS_J0_isLatin1_aae02_5005_ok (l : Nat)   (I : iq_I) (J : iq_J) (X : iq_X) {q : Int32} (h : zS_J0_isLatin1_aae02_5005 I = some q) : iq_Cc 1 317 [.ref 5005] (iq_sh l, I, J, X) (.inl (some (.int q)), (iq_sh l, I, J, X)) := by
  refine iq_Cc_of (L := [some (.ref 5005)]) rfl rfl ?_
  unfold zS_J0_isLatin1_aae02_5005 at h
  refine iq_G_go (k := 1) (σ' := (3, [some (.ref 5005)], [.int (1 : Int32)], (iq_sh l, I, J, X))) (fun _ => rfl) ?_
  refine iq_G_go (k := 1) (σ' := (6, [some (.ref 5005)], [], (iq_sh l, I, J, X))) (fun _ => rfl) ?_
  refine iq_G_go (k := 2) (σ' := (10, [some (.ref 5005)], [.int (0 : Int32)], (iq_sh l, I, J, X))) (fun _ => rfl) ?_
  refine iq_G_go (k := 1) (σ' := (13, [some (.ref 5005)], [], (iq_sh l, I, J, X))) (fun _ => rfl) ?_
  refine iq_G_go (k := 2) (σ' := (18, [some (.ref 5005)], [.int (1 : Int32)], (iq_sh l, I, J, X))) (fun _ => rfl) ?_
  cases h
  exact iq_G_ret (fun _ => rfl)
set_option maxRecDepth 100000 in
theorem zS_J1_charAt_3b067_6005_ok (l : Nat)  (x1 : Int32) (I : iq_I) (J : iq_J) (X : iq_X) {q : Int32} (h : zS_J1_charAt_3b067_6005 x1 I = some q) : iq_Cc 3 319 [.ref 6005, .int x1] (iq_sh l, I, J, X) (.inl (some (.int q)), (iq_sh l, I, J, X)) := by
  refine iq_Cc_of (L := [some (.ref 6005), some (.int x1)]) rfl rfl ?_
  unfold zS_J1_charAt_3b067_6005 at h
  refine iq_G_go (k := 3) (σ' := (3, [some (.ref 6005), some (.int x1)], [.int (3 : Int32), .int x1], (iq_sh l, I, J, X))) (fun _ => rfl) ?_
  obtain ⟨q1, hq1, h⟩ := iq_bnd h
  refine iq_G_call (σ' := (6, [some (.ref 6005), some (.int x1)], [], (iq_sh l, I, J, X))) (fun _ => rfl) (zS_J0_checkIndex_df160_ok l x1 (3 : Int32) I J X hq1) rfl rfl ?_
  refine iq_G_go (k := 2) (σ' := (8, [some (.ref 6005), some (.int x1)], [.int x1, .ref 6005], (iq_sh l, I, J, X))) (fun _ => rfl) ?_
  obtain ⟨hc_, h⟩ := iq_itn h
  refine iq_G_pos (c := iq_in x1 3) (σ1 := (9, [some (.ref 6005), some (.int x1)], [.int (ir_chr 5 (Int32.toNatClampNeg x1))], (iq_sh l, I, J, X))) (fun _ => rfl) hc_ ?_
  refine iq_G_go (k := 3) (σ' := (14, [some (.ref 6005), some (.int x1)], [.int ((Int32.toUInt32 ((ir_chr 5 (Int32.toNatClampNeg x1)) &&& (255 : Int32)) % 65536).toInt32)], (iq_sh l, I, J, X))) (fun _ => rfl) ?_
  obtain ⟨hc_, h⟩ := iq_itn h
  have h := Option.some.inj h
  subst h
  exact iq_G_rif (c := narrow .char (.int ((Int32.toUInt32 ((ir_chr 5 (Int32.toNatClampNeg x1)) &&& (255 : Int32)) % 65536).toInt32)) = .int ((Int32.toUInt32 ((ir_chr 5 (Int32.toNatClampNeg x1)) &&& (255 : Int32)) % 65536).toInt32)) (fun _ => rfl) hc_
set_option maxRecDepth 100000 in
theorem zS_J0_charAt_5068e_5005_ok (l : Nat)  (x1 : Int32) (I : iq_I) (J : iq_J) (X : iq_X) {q : Int32} (h : zS_J0_charAt_5068e_5005 x1 I = some q) : iq_Cc 4 313 [.ref 5005, .int x1] (iq_sh l, I, J, X) (.inl (some (.int q)), (iq_sh l, I, J, X)) := by
  refine iq_Cc_of (L := [some (.ref 5005), some (.int x1)]) rfl rfl ?_
  unfold zS_J0_charAt_5068e_5005 at h
  refine iq_G_go (k := 1) (σ' := (1, [some (.ref 5005), some (.int x1)], [.ref 5005], (iq_sh l, I, J, X))) (fun _ => rfl) ?_
  obtain ⟨q1, hq1, h⟩ := iq_bnd h
  refine iq_G_call (σ' := (4, [some (.ref 5005), some (.int x1)], [.int q1], (iq_sh l, I, J, X))) (fun _ => rfl) (zS_J0_isLatin1_aae02_5005_ok l  I J X hq1) rfl rfl ?_
  rcases iq_ite h with ⟨hc_, h⟩ | ⟨hc_, h⟩
  · refine iq_G_pos (c := q1 = 0) (σ1 := (16, [some (.ref 5005), some (.int x1)], [], (iq_sh l, I, J, X))) (fun _ => rfl) hc_ ?_
    cases h
  · refine iq_G_neg (c := q1 = 0) (σ1 := (7, [some (.ref 5005), some (.int x1)], [], (iq_sh l, I, J, X))) (fun _ => rfl) hc_ ?_
    refine iq_G_go (k := 3) (σ' := (12, [some (.ref 5005), some (.int x1)], [.int x1, .ref 6005], (iq_sh l, I, J, X))) (fun _ => rfl) ?_
    obtain ⟨q2, hq2, h⟩ := iq_bnd h
    refine iq_G_call (σ' := (15, [some (.ref 5005), some (.int x1)], [.int q2], (iq_sh l, I, J, X))) (fun _ => rfl) (zS_J1_charAt_3b067_6005_ok l x1 I J X hq2) rfl rfl ?_
    obtain ⟨hc_, h⟩ := iq_itn h
    have h := Option.some.inj h
    subst h
    exact iq_G_rif (c := narrow .char (.int q2) = .int q2) (fun _ => rfl) hc_
set_option maxRecDepth 100000 in
theorem zT_isWord_62_5005_l28_bok (l : Nat)   (I : iq_I) (J : iq_J) (X : iq_X) (x2 : Int32)  {q : (Int32) ⊕ ((Unit) ⊕ (Int32))} (h : zT_isWord_62_5005_l28_b I x2 = some q) (r : iq_R × iq_M) (hc : ∀ v, q = .inl v → iq_Gg 4 142 (28, [some (.ref 62), some (.ref 5005), some (.int v)], [], (iq_sh l, I, J, X)) r) (hx : ∀ w, q = .inr w → (∀ a, w = .inl a → iq_Gg 4 142 (63, [none, none, none], [], (iq_sh l, I, J, X)) r) ∧ (∀ b, w = .inr b → r = (.inl (some (.int b)), (iq_sh l, I, J, X)))) : iq_Gg 4 142 (28, [some (.ref 62), some (.ref 5005), some (.int x2)], [], (iq_sh l, I, J, X)) r := by
  unfold zT_isWord_62_5005_l28_b at h
  refine iq_G_go (k := 2) (σ' := (30, [some (.ref 62), some (.ref 5005), some (.int x2)], [.ref 5005, .int x2], (iq_sh l, I, J, X))) (fun _ => rfl) ?_
  obtain ⟨q2, hq2, h⟩ := iq_bnd h
  refine iq_G_call (σ' := (33, [some (.ref 62), some (.ref 5005), some (.int x2)], [.int q2, .int x2], (iq_sh l, I, J, X))) (fun _ => rfl) (zS_J0_length_8abf5_5005_ok l  I J X hq2) rfl rfl ?_
  rcases iq_ite h with ⟨hc_, h⟩ | ⟨hc_, h⟩
  · refine iq_G_pos (c := q2 ≤ x2) (σ1 := (63, [some (.ref 62), some (.ref 5005), some (.int x2)], [], (iq_sh l, I, J, X))) (fun _ => rfl) hc_ ?_
    cases h
    exact iq_G_fg (L := [none, none, none]) trivial ((hx (.inl ()) rfl).1 () rfl)
  · refine iq_G_neg (c := q2 ≤ x2) (σ1 := (36, [some (.ref 62), some (.ref 5005), some (.int x2)], [], (iq_sh l, I, J, X))) (fun _ => rfl) hc_ ?_
    refine iq_G_go (k := 6) (σ' := (46, [some (.ref 62), some (.ref 5005), some (.int x2)], [.int ((I 62 1) + x2), .ref 2], (iq_sh l, I, J, X))) (fun _ => rfl) ?_
    obtain ⟨hc_, h⟩ := iq_itn h
    refine iq_G_pos (c := iq_in ((I 62 1) + x2) 700) (σ1 := (47, [some (.ref 62), some (.ref 5005), some (.int x2)], [.int (I 2 (Int32.toNatClampNeg ((I 62 1) + x2)))], (iq_sh l, I, J, X))) (fun _ => rfl) hc_ ?_
    refine iq_G_go (k := 2) (σ' := (49, [some (.ref 62), some (.ref 5005), some (.int x2)], [.int x2, .ref 5005, .int (I 2 (Int32.toNatClampNeg ((I 62 1) + x2)))], (iq_sh l, I, J, X))) (fun _ => rfl) ?_
    obtain ⟨q3, hq3, h⟩ := iq_bnd h
    refine iq_G_call (σ' := (52, [some (.ref 62), some (.ref 5005), some (.int x2)], [.int q3, .int (I 2 (Int32.toNatClampNeg ((I 62 1) + x2)))], (iq_sh l, I, J, X))) (fun _ => rfl) (zS_J0_charAt_5068e_5005_ok l x2 I J X hq3) rfl rfl ?_
    rcases iq_ite h with ⟨hc_, h⟩ | ⟨hc_, h⟩
    · refine iq_G_pos (c := (I 2 (Int32.toNatClampNeg ((I 62 1) + x2))) = q3) (σ1 := (57, [some (.ref 62), some (.ref 5005), some (.int x2)], [], (iq_sh l, I, J, X))) (fun _ => rfl) hc_ ?_
      refine iq_G_go (k := 2) (σ' := (28, [some (.ref 62), some (.ref 5005), some (.int (x2 + (1 : Int32)))], [], (iq_sh l, I, J, X))) (fun _ => rfl) ?_
      cases h
      exact iq_G_fg (L := [some (.ref 62), some (.ref 5005), some (.int (x2 + (1 : Int32)))]) (And.intro rfl (And.intro rfl (And.intro rfl trivial))) (hc (x2 + (1 : Int32)) rfl)
    · refine iq_G_neg (c := (I 2 (Int32.toNatClampNeg ((I 62 1) + x2))) = q3) (σ1 := (55, [some (.ref 62), some (.ref 5005), some (.int x2)], [], (iq_sh l, I, J, X))) (fun _ => rfl) hc_ ?_
      refine iq_G_go (k := 1) (σ' := (56, [some (.ref 62), some (.ref 5005), some (.int x2)], [.int (0 : Int32)], (iq_sh l, I, J, X))) (fun _ => rfl) ?_
      cases h
      obtain rfl := (hx _ rfl).2 _ rfl
      exact iq_G_ret (fun _ => rfl)
set_option maxRecDepth 100000 in
theorem zT_isWord_62_5005_l28_ok (l : Nat)   (I : iq_I) (J : iq_J) (X : iq_X) {n : Nat} {v : Int32} {w : (Unit) ⊕ (Int32)} (h : zT_isWord_62_5005_l28 I n v = some w) (r : iq_R × iq_M) (hq : (∀ a, w = .inl a → iq_Gg 4 142 (63, [none, none, none], [], (iq_sh l, I, J, X)) r) ∧ (∀ b, w = .inr b → r = (.inl (some (.int b)), (iq_sh l, I, J, X)))) : iq_Gg 4 142 (28, [some (.ref 62), some (.ref 5005), some (.int v)], [], (iq_sh l, I, J, X)) r :=
  iq_lp_ok (σ := fun v => (28, [some (.ref 62), some (.ref 5005), some (.int v)], [], (iq_sh l, I, J, X))) (Q := fun w r => (∀ a, w = .inl a → iq_Gg 4 142 (63, [none, none, none], [], (iq_sh l, I, J, X)) r) ∧ (∀ b, w = .inr b → r = (.inl (some (.int b)), (iq_sh l, I, J, X)))) (fun v q hv r h1 h2 => zT_isWord_62_5005_l28_bok l I J X v hv r h1 h2) h r hq
set_option maxRecDepth 100000 in
theorem zT_isWord_62_5005_ok (l : Nat)   (I : iq_I) (J : iq_J) (X : iq_X) {q : Int32} (h : zT_isWord_62_5005 I = some q) : iq_Cc 5 142 [.ref 62, .ref 5005] (iq_sh l, I, J, X) (.inl (some (.int q)), (iq_sh l, I, J, X)) := by
  refine iq_Cc_of (L := [some (.ref 62), some (.ref 5005), none]) rfl rfl ?_
  unfold zT_isWord_62_5005 at h
  refine iq_G_go (k := 3) (σ' := (5, [some (.ref 62), some (.ref 5005), none], [.int (1 : Int32), .int (I 62 0)], (iq_sh l, I, J, X))) (fun _ => rfl) ?_
  rcases iq_ite h with ⟨hc_, h⟩ | ⟨hc_, h⟩
  · refine iq_G_pos (c := ¬ (I 62 0) = (1 : Int32)) (σ1 := (24, [some (.ref 62), some (.ref 5005), none], [], (iq_sh l, I, J, X))) (fun _ => rfl) hc_ ?_
    refine iq_G_go (k := 1) (σ' := (25, [some (.ref 62), some (.ref 5005), none], [.int (0 : Int32)], (iq_sh l, I, J, X))) (fun _ => rfl) ?_
    cases h
    exact iq_G_ret (fun _ => rfl)
  · refine iq_G_neg (c := ¬ (I 62 0) = (1 : Int32)) (σ1 := (8, [some (.ref 62), some (.ref 5005), none], [], (iq_sh l, I, J, X))) (fun _ => rfl) hc_ ?_
    refine iq_G_go (k := 6) (σ' := (18, [some (.ref 62), some (.ref 5005), none], [.ref 5005, .int ((I 62 4) - (I 62 1))], (iq_sh l, I, J, X))) (fun _ => rfl) ?_
    obtain ⟨q1, hq1, h⟩ := iq_bnd h
    refine iq_G_call (σ' := (21, [some (.ref 62), some (.ref 5005), none], [.int q1, .int ((I 62 4) - (I 62 1))], (iq_sh l, I, J, X))) (fun _ => rfl) (zS_J0_length_8abf5_5005_ok l  I J X hq1) rfl rfl ?_
    rcases iq_ite h with ⟨hc_, h⟩ | ⟨hc_, h⟩
    · have st_ : ∀ (z_0 : Int32) (r_ : iq_R × iq_M), z_0 = q1 → iq_Gg 4 142 (26, [some (.ref 62), some (.ref 5005), none], [], (iq_sh l, I, J, X)) r_ → iq_Gg 4 142 (21, [some (.ref 62), some (.ref 5005), none], [.int q1, .int z_0], (iq_sh l, I, J, X)) r_ := fun z_0 r_ hc_ hg_ => iq_G_pos (c := z_0 = q1) (σ1 := (26, [some (.ref 62), some (.ref 5005), none], [], (iq_sh l, I, J, X))) (fun _ => rfl) hc_ hg_
      refine st_ ((I 62 4) - (I 62 1)) _ hc_ ?_
      clear st_
      refine iq_G_go (k := 2) (σ' := (28, [some (.ref 62), some (.ref 5005), some (.int (0 : Int32))], [], (iq_sh l, I, J, X))) (fun _ => rfl) ?_
      obtain ⟨w4, hw4, h⟩ := iq_bnd h
      refine iq_G_fg (L := [some (.ref 62), some (.ref 5005), some (.int (0 : Int32))]) (And.intro rfl (And.intro rfl (And.intro rfl trivial))) ?_
      refine zT_isWord_62_5005_l28_ok l I J X hw4 _ ⟨fun a5 ha => ?_, fun b6 hb => ?_⟩
      · subst ha
        replace h := ir_smL h
        show iq_Gg 4 142 (63, [none, none, none], [], (iq_sh l, I, J, X)) _
        refine iq_G_go (k := 1) (σ' := (64, [none, none, none], [.int (1 : Int32)], (iq_sh l, I, J, X))) (fun _ => rfl) ?_
        cases h
        exact iq_G_ret (fun _ => rfl)
      · subst hb
        replace h := ir_smR h
        cases h
        rfl
    · have st_ : ∀ (z_0 : Int32) (r_ : iq_R × iq_M), ¬ (z_0 = q1) → iq_Gg 4 142 (24, [some (.ref 62), some (.ref 5005), none], [], (iq_sh l, I, J, X)) r_ → iq_Gg 4 142 (21, [some (.ref 62), some (.ref 5005), none], [.int q1, .int z_0], (iq_sh l, I, J, X)) r_ := fun z_0 r_ hc_ hg_ => iq_G_neg (c := z_0 = q1) (σ1 := (24, [some (.ref 62), some (.ref 5005), none], [], (iq_sh l, I, J, X))) (fun _ => rfl) hc_ hg_
      refine st_ ((I 62 4) - (I 62 1)) _ hc_ ?_
      clear st_
      refine iq_G_go (k := 1) (σ' := (25, [some (.ref 62), some (.ref 5005), none], [.int (0 : Int32)], (iq_sh l, I, J, X))) (fun _ => rfl) ?_
      cases h
      exact iq_G_ret (fun _ => rfl)
set_option maxRecDepth 100000 in
theorem zR_isToldNumber_ok (l : Nat)  (x1 : Int32) (I : iq_I) (J : iq_J) (X : iq_X) {q : Int32 × iq_I} (h : zR_isToldNumber x1 I = some q) : iq_Cc 3 109 [.ref 61, .int x1] (iq_sh l, I, J, X) (.inl (some (.int q.1)), (iq_sh l, q.2, J, X)) := by
  refine iq_Cc_of (L := [some (.ref 61), some (.int x1)]) rfl rfl ?_
  unfold zR_isToldNumber at h
  refine iq_G_go (k := 2) (σ' := (4, [some (.ref 61), some (.int x1)], [.int (9999 : Int32), .ref 61], (iq_sh l, I, J, X))) (fun _ => rfl) ?_
  obtain ⟨q1, hq1, h⟩ := iq_bnd h
  refine iq_G_call (σ' := (7, [some (.ref 61), some (.int x1)], [.int q1.1], (iq_sh l, q1.2, J, X))) (fun _ => rfl) (zR_isNumberTo_ok l (9999 : Int32) I J X hq1) rfl rfl ?_
  rcases iq_ite h with ⟨hc_, h⟩ | ⟨hc_, h⟩
  · refine iq_G_pos (c := ¬ q1.1 = 0) (σ1 := (12, [some (.ref 61), some (.int x1)], [], (iq_sh l, q1.2, J, X))) (fun _ => rfl) hc_ ?_
    refine iq_G_go (k := 2) (σ' := (16, [some (.ref 61), some (.int x1)], [.ref 62], (iq_sh l, q1.2, J, X))) (fun _ => rfl) ?_
    obtain ⟨q2, hq2, h⟩ := iq_bnd h
    refine iq_G_call (σ' := (19, [some (.ref 61), some (.int x1)], [.int q2], (iq_sh l, q1.2, J, X))) (fun _ => rfl) (zT_number_ok l  q1.2 J X hq2) rfl rfl ?_
    refine iq_G_go (k := 1) (σ' := (20, [some (.ref 61), some (.int x1)], [.int x1, .int q2], (iq_sh l, q1.2, J, X))) (fun _ => rfl) ?_
    rcases iq_ite h with ⟨hc_, h⟩ | ⟨hc_, h⟩
    · refine iq_G_pos (c := q2 < x1) (σ1 := (31, [some (.ref 61), some (.int x1)], [], (iq_sh l, q1.2, J, X))) (fun _ => rfl) hc_ ?_
      refine iq_G_go (k := 2) (σ' := (36, [some (.ref 61), some (.int x1)], [.int (1 : Int32)], (iq_sh l, q1.2, J, X))) (fun _ => rfl) ?_
      cases h
      exact iq_G_ret (fun _ => rfl)
    · refine iq_G_neg (c := q2 < x1) (σ1 := (23, [some (.ref 61), some (.int x1)], [], (iq_sh l, q1.2, J, X))) (fun _ => rfl) hc_ ?_
      refine iq_G_go (k := 2) (σ' := (25, [some (.ref 61), some (.int x1)], [.int (3 : Int32), .ref 61], (iq_sh l, q1.2, J, X))) (fun _ => rfl) ?_
      obtain ⟨q3, hq3, h⟩ := iq_bnd h
      refine iq_G_call (σ' := (28, [some (.ref 61), some (.int x1)], [.int q3.1], (iq_sh l, q3.2, J, X))) (fun _ => rfl) (zR_refuse_ok l (3 : Int32) q1.2 J X hq3) rfl rfl ?_
      rcases iq_ite h with ⟨hc_, h⟩ | ⟨hc_, h⟩
      · refine iq_G_pos (c := q3.1 = 0) (σ1 := (35, [some (.ref 61), some (.int x1)], [], (iq_sh l, q3.2, J, X))) (fun _ => rfl) hc_ ?_
        refine iq_G_go (k := 1) (σ' := (36, [some (.ref 61), some (.int x1)], [.int (0 : Int32)], (iq_sh l, q3.2, J, X))) (fun _ => rfl) ?_
        cases h
        exact iq_G_ret (fun _ => rfl)
      · refine iq_G_neg (c := q3.1 = 0) (σ1 := (31, [some (.ref 61), some (.int x1)], [], (iq_sh l, q3.2, J, X))) (fun _ => rfl) hc_ ?_
        refine iq_G_go (k := 2) (σ' := (36, [some (.ref 61), some (.int x1)], [.int (1 : Int32)], (iq_sh l, q3.2, J, X))) (fun _ => rfl) ?_
        cases h
        exact iq_G_ret (fun _ => rfl)
  · refine iq_G_neg (c := ¬ q1.1 = 0) (σ1 := (10, [some (.ref 61), some (.int x1)], [], (iq_sh l, q1.2, J, X))) (fun _ => rfl) hc_ ?_
    refine iq_G_go (k := 1) (σ' := (11, [some (.ref 61), some (.int x1)], [.int (0 : Int32)], (iq_sh l, q1.2, J, X))) (fun _ => rfl) ?_
    cases h
    exact iq_G_ret (fun _ => rfl)
set_option maxRecDepth 100000 in
theorem zU_leadsBy_38_ok (l : Nat)  (x1 : Int32) (x2 : Int32) (I : iq_I) (J : iq_J) (X : iq_X) {q : Int32} (h : zU_leadsBy_38 x1 x2 I = some q) : iq_Cc 1 48 [.ref 38, .int x1, .int x2] (iq_sh l, I, J, X) (.inl (some (.int q)), (iq_sh l, I, J, X)) := by
  refine iq_Cc_of (L := [some (.ref 38), some (.int x1), some (.int x2)]) rfl rfl ?_
  unfold zU_leadsBy_38 at h
  refine iq_G_go (k := 1) (σ' := (1, [some (.ref 38), some (.int x1), some (.int x2)], [.int x1], (iq_sh l, I, J, X))) (fun _ => rfl) ?_
  rcases iq_ite h with ⟨hc_, h⟩ | ⟨hc_, h⟩
  · refine iq_G_pos (c := x1 < 0) (σ1 := (22, [some (.ref 38), some (.int x1), some (.int x2)], [], (iq_sh l, I, J, X))) (fun _ => rfl) hc_ ?_
    refine iq_G_go (k := 1) (σ' := (23, [some (.ref 38), some (.int x1), some (.int x2)], [.int (-1 : Int32)], (iq_sh l, I, J, X))) (fun _ => rfl) ?_
    cases h
    exact iq_G_ret (fun _ => rfl)
  · refine iq_G_neg (c := x1 < 0) (σ1 := (4, [some (.ref 38), some (.int x1), some (.int x2)], [], (iq_sh l, I, J, X))) (fun _ => rfl) hc_ ?_
    refine iq_G_go (k := 3) (σ' := (9, [some (.ref 38), some (.int x1), some (.int x2)], [.int (I 38 0), .int x1], (iq_sh l, I, J, X))) (fun _ => rfl) ?_
    rcases iq_ite h with ⟨hc_, h⟩ | ⟨hc_, h⟩
    · refine iq_G_pos (c := (I 38 0) ≤ x1) (σ1 := (22, [some (.ref 38), some (.int x1), some (.int x2)], [], (iq_sh l, I, J, X))) (fun _ => rfl) hc_ ?_
      refine iq_G_go (k := 1) (σ' := (23, [some (.ref 38), some (.int x1), some (.int x2)], [.int (-1 : Int32)], (iq_sh l, I, J, X))) (fun _ => rfl) ?_
      cases h
      exact iq_G_ret (fun _ => rfl)
    · refine iq_G_neg (c := (I 38 0) ≤ x1) (σ1 := (12, [some (.ref 38), some (.int x1), some (.int x2)], [], (iq_sh l, I, J, X))) (fun _ => rfl) hc_ ?_
      refine iq_G_go (k := 1) (σ' := (13, [some (.ref 38), some (.int x1), some (.int x2)], [.int x2], (iq_sh l, I, J, X))) (fun _ => rfl) ?_
      rcases iq_ite h with ⟨hc_, h⟩ | ⟨hc_, h⟩
      · refine iq_G_pos (c := x2 < 0) (σ1 := (22, [some (.ref 38), some (.int x1), some (.int x2)], [], (iq_sh l, I, J, X))) (fun _ => rfl) hc_ ?_
        refine iq_G_go (k := 1) (σ' := (23, [some (.ref 38), some (.int x1), some (.int x2)], [.int (-1 : Int32)], (iq_sh l, I, J, X))) (fun _ => rfl) ?_
        cases h
        exact iq_G_ret (fun _ => rfl)
      · refine iq_G_neg (c := x2 < 0) (σ1 := (16, [some (.ref 38), some (.int x1), some (.int x2)], [], (iq_sh l, I, J, X))) (fun _ => rfl) hc_ ?_
        refine iq_G_go (k := 2) (σ' := (19, [some (.ref 38), some (.int x1), some (.int x2)], [.int (8 : Int32), .int x2], (iq_sh l, I, J, X))) (fun _ => rfl) ?_
        rcases iq_ite h with ⟨hc_, h⟩ | ⟨hc_, h⟩
        · refine iq_G_pos (c := x2 < (8 : Int32)) (σ1 := (24, [some (.ref 38), some (.int x1), some (.int x2)], [], (iq_sh l, I, J, X))) (fun _ => rfl) hc_ ?_
          refine iq_G_go (k := 7) (σ' := (34, [some (.ref 38), some (.int x1), some (.int x2)], [.int ((x1 * (8 : Int32)) + x2), .ref 48], (iq_sh l, I, J, X))) (fun _ => rfl) ?_
          obtain ⟨hc_, h⟩ := iq_itn h
          refine iq_G_pos (c := iq_in ((x1 * (8 : Int32)) + x2) 80) (σ1 := (35, [some (.ref 38), some (.int x1), some (.int x2)], [.int (I 48 (Int32.toNatClampNeg ((x1 * (8 : Int32)) + x2)))], (iq_sh l, I, J, X))) (fun _ => rfl) hc_ ?_
          cases h
          exact iq_G_ret (fun _ => rfl)
        · refine iq_G_neg (c := x2 < (8 : Int32)) (σ1 := (22, [some (.ref 38), some (.int x1), some (.int x2)], [], (iq_sh l, I, J, X))) (fun _ => rfl) hc_ ?_
          refine iq_G_go (k := 1) (σ' := (23, [some (.ref 38), some (.int x1), some (.int x2)], [.int (-1 : Int32)], (iq_sh l, I, J, X))) (fun _ => rfl) ?_
          cases h
          exact iq_G_ret (fun _ => rfl)
set_option maxRecDepth 100000 in
theorem zU_putArc_ok (l : Nat)  (x1 : Int32) (x2 : Int32) (x3 : Int32) (I : iq_I) (J : iq_J) (X : iq_X) {q : iq_I} (h : zU_putArc x1 x2 x3 I = some q) : iq_Cc 1 41 [.ref 38, .int x1, .int x2, .int x3] (iq_sh l, I, J, X) (.inl none, (iq_sh l, q, J, X)) := by
  refine iq_Cc_of (L := [some (.ref 38), some (.int x1), some (.int x2), some (.int x3)]) rfl rfl ?_
  unfold zU_putArc at h
  refine iq_G_go (k := 1) (σ' := (1, [some (.ref 38), some (.int x1), some (.int x2), some (.int x3)], [.int x1], (iq_sh l, I, J, X))) (fun _ => rfl) ?_
  rcases iq_ite h with ⟨hc_, h⟩ | ⟨hc_, h⟩
  · refine iq_G_pos (c := x1 < 0) (σ1 := (42, [some (.ref 38), some (.int x1), some (.int x2), some (.int x3)], [], (iq_sh l, I, J, X))) (fun _ => rfl) hc_ ?_
    cases h
    exact iq_G_ret (fun _ => rfl)
  · refine iq_G_neg (c := x1 < 0) (σ1 := (4, [some (.ref 38), some (.int x1), some (.int x2), some (.int x3)], [], (iq_sh l, I, J, X))) (fun _ => rfl) hc_ ?_
    refine iq_G_go (k := 2) (σ' := (7, [some (.ref 38), some (.int x1), some (.int x2), some (.int x3)], [.int (10 : Int32), .int x1], (iq_sh l, I, J, X))) (fun _ => rfl) ?_
    rcases iq_ite h with ⟨hc_, h⟩ | ⟨hc_, h⟩
    · refine iq_G_pos (c := (10 : Int32) ≤ x1) (σ1 := (42, [some (.ref 38), some (.int x1), some (.int x2), some (.int x3)], [], (iq_sh l, I, J, X))) (fun _ => rfl) hc_ ?_
      cases h
      exact iq_G_ret (fun _ => rfl)
    · refine iq_G_neg (c := (10 : Int32) ≤ x1) (σ1 := (10, [some (.ref 38), some (.int x1), some (.int x2), some (.int x3)], [], (iq_sh l, I, J, X))) (fun _ => rfl) hc_ ?_
      refine iq_G_go (k := 1) (σ' := (11, [some (.ref 38), some (.int x1), some (.int x2), some (.int x3)], [.int x2], (iq_sh l, I, J, X))) (fun _ => rfl) ?_
      rcases iq_ite h with ⟨hc_, h⟩ | ⟨hc_, h⟩
      · refine iq_G_pos (c := x2 < 0) (σ1 := (42, [some (.ref 38), some (.int x1), some (.int x2), some (.int x3)], [], (iq_sh l, I, J, X))) (fun _ => rfl) hc_ ?_
        cases h
        exact iq_G_ret (fun _ => rfl)
      · refine iq_G_neg (c := x2 < 0) (σ1 := (14, [some (.ref 38), some (.int x1), some (.int x2), some (.int x3)], [], (iq_sh l, I, J, X))) (fun _ => rfl) hc_ ?_
        refine iq_G_go (k := 2) (σ' := (17, [some (.ref 38), some (.int x1), some (.int x2), some (.int x3)], [.int (8 : Int32), .int x2], (iq_sh l, I, J, X))) (fun _ => rfl) ?_
        rcases iq_ite h with ⟨hc_, h⟩ | ⟨hc_, h⟩
        · refine iq_G_pos (c := (8 : Int32) ≤ x2) (σ1 := (42, [some (.ref 38), some (.int x1), some (.int x2), some (.int x3)], [], (iq_sh l, I, J, X))) (fun _ => rfl) hc_ ?_
          cases h
          exact iq_G_ret (fun _ => rfl)
        · refine iq_G_neg (c := (8 : Int32) ≤ x2) (σ1 := (20, [some (.ref 38), some (.int x1), some (.int x2), some (.int x3)], [], (iq_sh l, I, J, X))) (fun _ => rfl) hc_ ?_
          refine iq_G_go (k := 8) (σ' := (31, [some (.ref 38), some (.int x1), some (.int x2), some (.int x3)], [.int x3, .int ((x1 * (8 : Int32)) + x2), .ref 48], (iq_sh l, I, J, X))) (fun _ => rfl) ?_
          obtain ⟨hc_, h⟩ := iq_itn h
          refine iq_G_pos (c := iq_in ((x1 * (8 : Int32)) + x2) 80) (σ1 := (32, [some (.ref 38), some (.int x1), some (.int x2), some (.int x3)], [], (iq_sh l, (iq_upI I 48 (Int32.toNatClampNeg ((x1 * (8 : Int32)) + x2)) x3), J, X))) (fun _ => rfl) hc_ ?_
          obtain ⟨I1, eI1, h⟩ := ir_letG h
          rw [← eI1]
          clear eI1
          refine iq_G_go (k := 5) (σ' := (39, [some (.ref 38), some (.int x1), some (.int x2), some (.int x3)], [.int ((I1 38 3) + (1 : Int32)), .ref 38], (iq_sh l, I1, J, X))) (fun _ => rfl) ?_
          refine iq_G_go (k := 1) (σ' := (42, [some (.ref 38), some (.int x1), some (.int x2), some (.int x3)], [], (iq_sh l, (iq_upI I1 38 3 ((I1 38 3) + (1 : Int32))), J, X))) (fun _ => rfl) ?_
          obtain ⟨I2, eI2, h⟩ := ir_letG h
          rw [← eI2]
          clear eI2
          cases h
          exact iq_G_ret (fun _ => rfl)
set_option maxRecDepth 100000 in
theorem zR_readArc_ok (l : Nat)   (I : iq_I) (J : iq_J) (X : iq_X) {q : Int32 × iq_I} (h : zR_readArc I = some q) : iq_Cc 7 91 [.ref 61] (iq_sh l, I, J, X) (.inl (some (.int q.1)), (iq_sh l, q.2, J, X)) := by
  refine iq_Cc_of (L := [some (.ref 61), none, none]) rfl rfl ?_
  unfold zR_readArc at h
  refine iq_G_go (k := 4) (σ' := (9, [some (.ref 61), none, none], [.int (24 : Int32), .int (I 38 3)], (iq_sh l, I, J, X))) (fun _ => rfl) ?_
  rcases iq_ite h with ⟨hc_, h⟩ | ⟨hc_, h⟩
  · refine iq_G_pos (c := (I 38 3) < (24 : Int32)) (σ1 := (18, [some (.ref 61), none, none], [], (iq_sh l, I, J, X))) (fun _ => rfl) hc_ ?_
    refine iq_G_go (k := 2) (σ' := (22, [some (.ref 61), none, none], [.ref 62], (iq_sh l, I, J, X))) (fun _ => rfl) ?_
    obtain ⟨q1, hq1, h⟩ := iq_bnd h
    refine iq_G_call (σ' := (25, [some (.ref 61), none, none], [], (iq_sh l, q1, J, X))) (fun _ => rfl) (zT_next_ok l  I J X hq1) rfl rfl ?_
    refine iq_G_go (k := 4) (σ' := (33, [some (.ref 61), none, none], [.int (q1 38 0), .ref 61], (iq_sh l, q1, J, X))) (fun _ => rfl) ?_
    obtain ⟨q2, hq2, h⟩ := iq_bnd h
    refine iq_G_call (σ' := (36, [some (.ref 61), none, none], [.int q2.1], (iq_sh l, q2.2, J, X))) (fun _ => rfl) (zR_isToldNumber_ok l (q1 38 0) q1 J X hq2) rfl rfl ?_
    rcases iq_ite h with ⟨hc_, h⟩ | ⟨hc_, h⟩
    · refine iq_G_pos (c := ¬ q2.1 = 0) (σ1 := (41, [some (.ref 61), none, none], [], (iq_sh l, q2.2, J, X))) (fun _ => rfl) hc_ ?_
      refine iq_G_go (k := 2) (σ' := (45, [some (.ref 61), none, none], [.ref 62], (iq_sh l, q2.2, J, X))) (fun _ => rfl) ?_
      obtain ⟨q3, hq3, h⟩ := iq_bnd h
      refine iq_G_call (σ' := (48, [some (.ref 61), none, none], [.int q3], (iq_sh l, q2.2, J, X))) (fun _ => rfl) (zT_number_ok l  q2.2 J X hq3) rfl rfl ?_
      refine iq_G_go (k := 3) (σ' := (53, [some (.ref 61), some (.int q3), none], [.ref 62], (iq_sh l, q2.2, J, X))) (fun _ => rfl) ?_
      obtain ⟨q4, hq4, h⟩ := iq_bnd h
      refine iq_G_call (σ' := (56, [some (.ref 61), some (.int q3), none], [], (iq_sh l, q4, J, X))) (fun _ => rfl) (zT_next_ok l  q2.2 J X hq4) rfl rfl ?_
      refine iq_G_go (k := 2) (σ' := (59, [some (.ref 61), some (.int q3), none], [.int (7 : Int32), .ref 61], (iq_sh l, q4, J, X))) (fun _ => rfl) ?_
      obtain ⟨q5, hq5, h⟩ := iq_bnd h
      refine iq_G_call (σ' := (62, [some (.ref 61), some (.int q3), none], [.int q5.1], (iq_sh l, q5.2, J, X))) (fun _ => rfl) (zR_isNumberTo_ok l (7 : Int32) q4 J X hq5) rfl rfl ?_
      rcases iq_ite h with ⟨hc_, h⟩ | ⟨hc_, h⟩
      · refine iq_G_pos (c := ¬ q5.1 = 0) (σ1 := (67, [some (.ref 61), some (.int q3), none], [], (iq_sh l, q5.2, J, X))) (fun _ => rfl) hc_ ?_
        refine iq_G_go (k := 2) (σ' := (71, [some (.ref 61), some (.int q3), none], [.ref 62], (iq_sh l, q5.2, J, X))) (fun _ => rfl) ?_
        obtain ⟨q6, hq6, h⟩ := iq_bnd h
        refine iq_G_call (σ' := (74, [some (.ref 61), some (.int q3), none], [.int q6], (iq_sh l, q5.2, J, X))) (fun _ => rfl) (zT_number_ok l  q5.2 J X hq6) rfl rfl ?_
        refine iq_G_go (k := 5) (σ' := (81, [some (.ref 61), some (.int q3), some (.int q6)], [.int q6, .int q3, .ref 38], (iq_sh l, q5.2, J, X))) (fun _ => rfl) ?_
        obtain ⟨q7, hq7, h⟩ := iq_bnd h
        refine iq_G_call (σ' := (84, [some (.ref 61), some (.int q3), some (.int q6)], [.int q7], (iq_sh l, q5.2, J, X))) (fun _ => rfl) (zU_leadsBy_38_ok l q3 q6 q5.2 J X hq7) rfl rfl ?_
        refine iq_G_go (k := 1) (σ' := (85, [some (.ref 61), some (.int q3), some (.int q6)], [.int (-1 : Int32), .int q7], (iq_sh l, q5.2, J, X))) (fun _ => rfl) ?_
        rcases iq_ite h with ⟨hc_, h⟩ | ⟨hc_, h⟩
        · refine iq_G_pos (c := q7 = (-1 : Int32)) (σ1 := (94, [some (.ref 61), some (.int q3), some (.int q6)], [], (iq_sh l, q5.2, J, X))) (fun _ => rfl) hc_ ?_
          refine iq_G_go (k := 2) (σ' := (98, [some (.ref 61), some (.int q3), some (.int q6)], [.ref 62], (iq_sh l, q5.2, J, X))) (fun _ => rfl) ?_
          obtain ⟨q8, hq8, h⟩ := iq_bnd h
          refine iq_G_call (σ' := (101, [some (.ref 61), some (.int q3), some (.int q6)], [], (iq_sh l, q8, J, X))) (fun _ => rfl) (zT_next_ok l  q5.2 J X hq8) rfl rfl ?_
          refine iq_G_go (k := 4) (σ' := (109, [some (.ref 61), some (.int q3), some (.int q6)], [.int (q8 38 0), .ref 61], (iq_sh l, q8, J, X))) (fun _ => rfl) ?_
          obtain ⟨q9, hq9, h⟩ := iq_bnd h
          refine iq_G_call (σ' := (112, [some (.ref 61), some (.int q3), some (.int q6)], [.int q9.1], (iq_sh l, q9.2, J, X))) (fun _ => rfl) (zR_isToldNumber_ok l (q8 38 0) q8 J X hq9) rfl rfl ?_
          rcases iq_ite h with ⟨hc_, h⟩ | ⟨hc_, h⟩
          · refine iq_G_pos (c := ¬ q9.1 = 0) (σ1 := (117, [some (.ref 61), some (.int q3), some (.int q6)], [], (iq_sh l, q9.2, J, X))) (fun _ => rfl) hc_ ?_
            refine iq_G_go (k := 6) (σ' := (127, [some (.ref 61), some (.int q3), some (.int q6)], [.ref 62, .int q6, .int q3, .ref 38], (iq_sh l, q9.2, J, X))) (fun _ => rfl) ?_
            obtain ⟨q10, hq10, h⟩ := iq_bnd h
            refine iq_G_call (σ' := (130, [some (.ref 61), some (.int q3), some (.int q6)], [.int q10, .int q6, .int q3, .ref 38], (iq_sh l, q9.2, J, X))) (fun _ => rfl) (zT_number_ok l  q9.2 J X hq10) rfl rfl ?_
            obtain ⟨q11, hq11, h⟩ := iq_bnd h
            refine iq_G_call (σ' := (133, [some (.ref 61), some (.int q3), some (.int q6)], [], (iq_sh l, q11, J, X))) (fun _ => rfl) (zU_putArc_ok l q3 q6 q10 q9.2 J X hq11) rfl rfl ?_
            refine iq_G_go (k := 2) (σ' := (137, [some (.ref 61), some (.int q3), some (.int q6)], [.ref 62], (iq_sh l, q11, J, X))) (fun _ => rfl) ?_
            obtain ⟨q12, hq12, h⟩ := iq_bnd h
            refine iq_G_call (σ' := (140, [some (.ref 61), some (.int q3), some (.int q6)], [], (iq_sh l, q12, J, X))) (fun _ => rfl) (zT_next_ok l  q11 J X hq12) rfl rfl ?_
            refine iq_G_go (k := 1) (σ' := (141, [some (.ref 61), some (.int q3), some (.int q6)], [.ref 61], (iq_sh l, q12, J, X))) (fun _ => rfl) ?_
            obtain ⟨q13, hq13, h⟩ := iq_bnd h
            refine iq_G_call (σ' := (144, [some (.ref 61), some (.int q3), some (.int q6)], [.int q13.1], (iq_sh l, q13.2, J, X))) (fun _ => rfl) (zR_passLineEnd_ok l  q12 J X hq13) rfl rfl ?_
            obtain ⟨hc_, h⟩ := iq_itn h
            have h := Option.some.inj h
            subst h
            exact iq_G_rif (c := q13.1 = 0 ∨ q13.1 = 1) (fun _ => rfl) hc_
          · refine iq_G_neg (c := ¬ q9.1 = 0) (σ1 := (115, [some (.ref 61), some (.int q3), some (.int q6)], [], (iq_sh l, q9.2, J, X))) (fun _ => rfl) hc_ ?_
            refine iq_G_go (k := 1) (σ' := (116, [some (.ref 61), some (.int q3), some (.int q6)], [.int (0 : Int32)], (iq_sh l, q9.2, J, X))) (fun _ => rfl) ?_
            cases h
            exact iq_G_ret (fun _ => rfl)
        · refine iq_G_neg (c := q7 = (-1 : Int32)) (σ1 := (88, [some (.ref 61), some (.int q3), some (.int q6)], [], (iq_sh l, q5.2, J, X))) (fun _ => rfl) hc_ ?_
          refine iq_G_go (k := 2) (σ' := (90, [some (.ref 61), some (.int q3), some (.int q6)], [.int (4 : Int32), .ref 61], (iq_sh l, q5.2, J, X))) (fun _ => rfl) ?_
          obtain ⟨q14, hq14, h⟩ := iq_bnd h
          refine iq_G_call (σ' := (93, [some (.ref 61), some (.int q3), some (.int q6)], [.int q14.1], (iq_sh l, q14.2, J, X))) (fun _ => rfl) (zR_refuse_ok l (4 : Int32) q5.2 J X hq14) rfl rfl ?_
          obtain ⟨hc_, h⟩ := iq_itn h
          have h := Option.some.inj h
          subst h
          exact iq_G_rif (c := q14.1 = 0 ∨ q14.1 = 1) (fun _ => rfl) hc_
      · refine iq_G_neg (c := ¬ q5.1 = 0) (σ1 := (65, [some (.ref 61), some (.int q3), none], [], (iq_sh l, q5.2, J, X))) (fun _ => rfl) hc_ ?_
        refine iq_G_go (k := 1) (σ' := (66, [some (.ref 61), some (.int q3), none], [.int (0 : Int32)], (iq_sh l, q5.2, J, X))) (fun _ => rfl) ?_
        cases h
        exact iq_G_ret (fun _ => rfl)
    · refine iq_G_neg (c := ¬ q2.1 = 0) (σ1 := (39, [some (.ref 61), none, none], [], (iq_sh l, q2.2, J, X))) (fun _ => rfl) hc_ ?_
      refine iq_G_go (k := 1) (σ' := (40, [some (.ref 61), none, none], [.int (0 : Int32)], (iq_sh l, q2.2, J, X))) (fun _ => rfl) ?_
      cases h
      exact iq_G_ret (fun _ => rfl)
  · refine iq_G_neg (c := (I 38 3) < (24 : Int32)) (σ1 := (12, [some (.ref 61), none, none], [], (iq_sh l, I, J, X))) (fun _ => rfl) hc_ ?_
    refine iq_G_go (k := 2) (σ' := (14, [some (.ref 61), none, none], [.int (2 : Int32), .ref 61], (iq_sh l, I, J, X))) (fun _ => rfl) ?_
    obtain ⟨q15, hq15, h⟩ := iq_bnd h
    refine iq_G_call (σ' := (17, [some (.ref 61), none, none], [.int q15.1], (iq_sh l, q15.2, J, X))) (fun _ => rfl) (zR_refuse_ok l (2 : Int32) I J X hq15) rfl rfl ?_
    obtain ⟨hc_, h⟩ := iq_itn h
    have h := Option.some.inj h
    subst h
    exact iq_G_rif (c := q15.1 = 0 ∨ q15.1 = 1) (fun _ => rfl) hc_
set_option maxRecDepth 100000 in
theorem zS_J0_coder_7d493_5006_ok (l : Nat)   (I : iq_I) (J : iq_J) (X : iq_X) {q : Int32} (h : zS_J0_coder_7d493_5006 I = some q) : iq_Cc 1 316 [.ref 5006] (iq_sh l, I, J, X) (.inl (some (.int q)), (iq_sh l, I, J, X)) := by
  refine iq_Cc_of (L := [some (.ref 5006)]) rfl rfl ?_
  unfold zS_J0_coder_7d493_5006 at h
  refine iq_G_go (k := 1) (σ' := (3, [some (.ref 5006)], [.int (1 : Int32)], (iq_sh l, I, J, X))) (fun _ => rfl) ?_
  refine iq_G_go (k := 1) (σ' := (6, [some (.ref 5006)], [], (iq_sh l, I, J, X))) (fun _ => rfl) ?_
  refine iq_G_go (k := 3) (σ' := (14, [some (.ref 5006)], [.int (0 : Int32)], (iq_sh l, I, J, X))) (fun _ => rfl) ?_
  cases h
  exact iq_G_ret (fun _ => rfl)
set_option maxRecDepth 100000 in
theorem zS_J0_length_8abf5_5006_ok (l : Nat)   (I : iq_I) (J : iq_J) (X : iq_X) {q : Int32} (h : zS_J0_length_8abf5_5006 I = some q) : iq_Cc 2 312 [.ref 5006] (iq_sh l, I, J, X) (.inl (some (.int q)), (iq_sh l, I, J, X)) := by
  refine iq_Cc_of (L := [some (.ref 5006)]) rfl rfl ?_
  unfold zS_J0_length_8abf5_5006 at h
  refine iq_G_go (k := 4) (σ' := (6, [some (.ref 5006)], [.ref 5006, .int (4 : Int32)], (iq_sh l, I, J, X))) (fun _ => rfl) ?_
  obtain ⟨q1, hq1, h⟩ := iq_bnd h
  refine iq_G_call (σ' := (9, [some (.ref 5006)], [.int q1, .int (4 : Int32)], (iq_sh l, I, J, X))) (fun _ => rfl) (zS_J0_coder_7d493_5006_ok l  I J X hq1) rfl rfl ?_
  refine iq_G_go (k := 1) (σ' := (10, [some (.ref 5006)], [.int ((4 : Int32) >>> (q1 &&& 31))], (iq_sh l, I, J, X))) (fun _ => rfl) ?_
  cases h
  exact iq_G_ret (fun _ => rfl)
set_option maxRecDepth 100000 in
theorem zS_J0_isLatin1_aae02_5006_ok (l : Nat)   (I : iq_I) (J : iq_J) (X : iq_X) {q : Int32} (h : zS_J0_isLatin1_aae02_5006 I = some q) : iq_Cc 1 317 [.ref 5006] (iq_sh l, I, J, X) (.inl (some (.int q)), (iq_sh l, I, J, X)) := by
  refine iq_Cc_of (L := [some (.ref 5006)]) rfl rfl ?_
  unfold zS_J0_isLatin1_aae02_5006 at h
  refine iq_G_go (k := 1) (σ' := (3, [some (.ref 5006)], [.int (1 : Int32)], (iq_sh l, I, J, X))) (fun _ => rfl) ?_
  refine iq_G_go (k := 1) (σ' := (6, [some (.ref 5006)], [], (iq_sh l, I, J, X))) (fun _ => rfl) ?_
  refine iq_G_go (k := 2) (σ' := (10, [some (.ref 5006)], [.int (0 : Int32)], (iq_sh l, I, J, X))) (fun _ => rfl) ?_
  refine iq_G_go (k := 1) (σ' := (13, [some (.ref 5006)], [], (iq_sh l, I, J, X))) (fun _ => rfl) ?_
  refine iq_G_go (k := 2) (σ' := (18, [some (.ref 5006)], [.int (1 : Int32)], (iq_sh l, I, J, X))) (fun _ => rfl) ?_
  cases h
  exact iq_G_ret (fun _ => rfl)
set_option maxRecDepth 100000 in
theorem zS_J1_charAt_3b067_6006_ok (l : Nat)  (x1 : Int32) (I : iq_I) (J : iq_J) (X : iq_X) {q : Int32} (h : zS_J1_charAt_3b067_6006 x1 I = some q) : iq_Cc 3 319 [.ref 6006, .int x1] (iq_sh l, I, J, X) (.inl (some (.int q)), (iq_sh l, I, J, X)) := by
  refine iq_Cc_of (L := [some (.ref 6006), some (.int x1)]) rfl rfl ?_
  unfold zS_J1_charAt_3b067_6006 at h
  refine iq_G_go (k := 3) (σ' := (3, [some (.ref 6006), some (.int x1)], [.int (4 : Int32), .int x1], (iq_sh l, I, J, X))) (fun _ => rfl) ?_
  obtain ⟨q1, hq1, h⟩ := iq_bnd h
  refine iq_G_call (σ' := (6, [some (.ref 6006), some (.int x1)], [], (iq_sh l, I, J, X))) (fun _ => rfl) (zS_J0_checkIndex_df160_ok l x1 (4 : Int32) I J X hq1) rfl rfl ?_
  refine iq_G_go (k := 2) (σ' := (8, [some (.ref 6006), some (.int x1)], [.int x1, .ref 6006], (iq_sh l, I, J, X))) (fun _ => rfl) ?_
  obtain ⟨hc_, h⟩ := iq_itn h
  refine iq_G_pos (c := iq_in x1 4) (σ1 := (9, [some (.ref 6006), some (.int x1)], [.int (ir_chr 6 (Int32.toNatClampNeg x1))], (iq_sh l, I, J, X))) (fun _ => rfl) hc_ ?_
  refine iq_G_go (k := 3) (σ' := (14, [some (.ref 6006), some (.int x1)], [.int ((Int32.toUInt32 ((ir_chr 6 (Int32.toNatClampNeg x1)) &&& (255 : Int32)) % 65536).toInt32)], (iq_sh l, I, J, X))) (fun _ => rfl) ?_
  obtain ⟨hc_, h⟩ := iq_itn h
  have h := Option.some.inj h
  subst h
  exact iq_G_rif (c := narrow .char (.int ((Int32.toUInt32 ((ir_chr 6 (Int32.toNatClampNeg x1)) &&& (255 : Int32)) % 65536).toInt32)) = .int ((Int32.toUInt32 ((ir_chr 6 (Int32.toNatClampNeg x1)) &&& (255 : Int32)) % 65536).toInt32)) (fun _ => rfl) hc_
set_option maxRecDepth 100000 in
theorem zS_J0_charAt_5068e_5006_ok (l : Nat)  (x1 : Int32) (I : iq_I) (J : iq_J) (X : iq_X) {q : Int32} (h : zS_J0_charAt_5068e_5006 x1 I = some q) : iq_Cc 4 313 [.ref 5006, .int x1] (iq_sh l, I, J, X) (.inl (some (.int q)), (iq_sh l, I, J, X)) := by
  refine iq_Cc_of (L := [some (.ref 5006), some (.int x1)]) rfl rfl ?_
  unfold zS_J0_charAt_5068e_5006 at h
  refine iq_G_go (k := 1) (σ' := (1, [some (.ref 5006), some (.int x1)], [.ref 5006], (iq_sh l, I, J, X))) (fun _ => rfl) ?_
  obtain ⟨q1, hq1, h⟩ := iq_bnd h
  refine iq_G_call (σ' := (4, [some (.ref 5006), some (.int x1)], [.int q1], (iq_sh l, I, J, X))) (fun _ => rfl) (zS_J0_isLatin1_aae02_5006_ok l  I J X hq1) rfl rfl ?_
  rcases iq_ite h with ⟨hc_, h⟩ | ⟨hc_, h⟩
  · refine iq_G_pos (c := q1 = 0) (σ1 := (16, [some (.ref 5006), some (.int x1)], [], (iq_sh l, I, J, X))) (fun _ => rfl) hc_ ?_
    cases h
  · refine iq_G_neg (c := q1 = 0) (σ1 := (7, [some (.ref 5006), some (.int x1)], [], (iq_sh l, I, J, X))) (fun _ => rfl) hc_ ?_
    refine iq_G_go (k := 3) (σ' := (12, [some (.ref 5006), some (.int x1)], [.int x1, .ref 6006], (iq_sh l, I, J, X))) (fun _ => rfl) ?_
    obtain ⟨q2, hq2, h⟩ := iq_bnd h
    refine iq_G_call (σ' := (15, [some (.ref 5006), some (.int x1)], [.int q2], (iq_sh l, I, J, X))) (fun _ => rfl) (zS_J1_charAt_3b067_6006_ok l x1 I J X hq2) rfl rfl ?_
    obtain ⟨hc_, h⟩ := iq_itn h
    have h := Option.some.inj h
    subst h
    exact iq_G_rif (c := narrow .char (.int q2) = .int q2) (fun _ => rfl) hc_
set_option maxRecDepth 100000 in
theorem zT_isWord_62_5006_l28_bok (l : Nat)   (I : iq_I) (J : iq_J) (X : iq_X) (x2 : Int32)  {q : (Int32) ⊕ ((Unit) ⊕ (Int32))} (h : zT_isWord_62_5006_l28_b I x2 = some q) (r : iq_R × iq_M) (hc : ∀ v, q = .inl v → iq_Gg 4 142 (28, [some (.ref 62), some (.ref 5006), some (.int v)], [], (iq_sh l, I, J, X)) r) (hx : ∀ w, q = .inr w → (∀ a, w = .inl a → iq_Gg 4 142 (63, [none, none, none], [], (iq_sh l, I, J, X)) r) ∧ (∀ b, w = .inr b → r = (.inl (some (.int b)), (iq_sh l, I, J, X)))) : iq_Gg 4 142 (28, [some (.ref 62), some (.ref 5006), some (.int x2)], [], (iq_sh l, I, J, X)) r := by
  unfold zT_isWord_62_5006_l28_b at h
  refine iq_G_go (k := 2) (σ' := (30, [some (.ref 62), some (.ref 5006), some (.int x2)], [.ref 5006, .int x2], (iq_sh l, I, J, X))) (fun _ => rfl) ?_
  obtain ⟨q2, hq2, h⟩ := iq_bnd h
  refine iq_G_call (σ' := (33, [some (.ref 62), some (.ref 5006), some (.int x2)], [.int q2, .int x2], (iq_sh l, I, J, X))) (fun _ => rfl) (zS_J0_length_8abf5_5006_ok l  I J X hq2) rfl rfl ?_
  rcases iq_ite h with ⟨hc_, h⟩ | ⟨hc_, h⟩
  · refine iq_G_pos (c := q2 ≤ x2) (σ1 := (63, [some (.ref 62), some (.ref 5006), some (.int x2)], [], (iq_sh l, I, J, X))) (fun _ => rfl) hc_ ?_
    cases h
    exact iq_G_fg (L := [none, none, none]) trivial ((hx (.inl ()) rfl).1 () rfl)
  · refine iq_G_neg (c := q2 ≤ x2) (σ1 := (36, [some (.ref 62), some (.ref 5006), some (.int x2)], [], (iq_sh l, I, J, X))) (fun _ => rfl) hc_ ?_
    refine iq_G_go (k := 6) (σ' := (46, [some (.ref 62), some (.ref 5006), some (.int x2)], [.int ((I 62 1) + x2), .ref 2], (iq_sh l, I, J, X))) (fun _ => rfl) ?_
    obtain ⟨hc_, h⟩ := iq_itn h
    refine iq_G_pos (c := iq_in ((I 62 1) + x2) 700) (σ1 := (47, [some (.ref 62), some (.ref 5006), some (.int x2)], [.int (I 2 (Int32.toNatClampNeg ((I 62 1) + x2)))], (iq_sh l, I, J, X))) (fun _ => rfl) hc_ ?_
    refine iq_G_go (k := 2) (σ' := (49, [some (.ref 62), some (.ref 5006), some (.int x2)], [.int x2, .ref 5006, .int (I 2 (Int32.toNatClampNeg ((I 62 1) + x2)))], (iq_sh l, I, J, X))) (fun _ => rfl) ?_
    obtain ⟨q3, hq3, h⟩ := iq_bnd h
    refine iq_G_call (σ' := (52, [some (.ref 62), some (.ref 5006), some (.int x2)], [.int q3, .int (I 2 (Int32.toNatClampNeg ((I 62 1) + x2)))], (iq_sh l, I, J, X))) (fun _ => rfl) (zS_J0_charAt_5068e_5006_ok l x2 I J X hq3) rfl rfl ?_
    rcases iq_ite h with ⟨hc_, h⟩ | ⟨hc_, h⟩
    · refine iq_G_pos (c := (I 2 (Int32.toNatClampNeg ((I 62 1) + x2))) = q3) (σ1 := (57, [some (.ref 62), some (.ref 5006), some (.int x2)], [], (iq_sh l, I, J, X))) (fun _ => rfl) hc_ ?_
      refine iq_G_go (k := 2) (σ' := (28, [some (.ref 62), some (.ref 5006), some (.int (x2 + (1 : Int32)))], [], (iq_sh l, I, J, X))) (fun _ => rfl) ?_
      cases h
      exact iq_G_fg (L := [some (.ref 62), some (.ref 5006), some (.int (x2 + (1 : Int32)))]) (And.intro rfl (And.intro rfl (And.intro rfl trivial))) (hc (x2 + (1 : Int32)) rfl)
    · refine iq_G_neg (c := (I 2 (Int32.toNatClampNeg ((I 62 1) + x2))) = q3) (σ1 := (55, [some (.ref 62), some (.ref 5006), some (.int x2)], [], (iq_sh l, I, J, X))) (fun _ => rfl) hc_ ?_
      refine iq_G_go (k := 1) (σ' := (56, [some (.ref 62), some (.ref 5006), some (.int x2)], [.int (0 : Int32)], (iq_sh l, I, J, X))) (fun _ => rfl) ?_
      cases h
      obtain rfl := (hx _ rfl).2 _ rfl
      exact iq_G_ret (fun _ => rfl)
set_option maxRecDepth 100000 in
theorem zT_isWord_62_5006_l28_ok (l : Nat)   (I : iq_I) (J : iq_J) (X : iq_X) {n : Nat} {v : Int32} {w : (Unit) ⊕ (Int32)} (h : zT_isWord_62_5006_l28 I n v = some w) (r : iq_R × iq_M) (hq : (∀ a, w = .inl a → iq_Gg 4 142 (63, [none, none, none], [], (iq_sh l, I, J, X)) r) ∧ (∀ b, w = .inr b → r = (.inl (some (.int b)), (iq_sh l, I, J, X)))) : iq_Gg 4 142 (28, [some (.ref 62), some (.ref 5006), some (.int v)], [], (iq_sh l, I, J, X)) r :=
  iq_lp_ok (σ := fun v => (28, [some (.ref 62), some (.ref 5006), some (.int v)], [], (iq_sh l, I, J, X))) (Q := fun w r => (∀ a, w = .inl a → iq_Gg 4 142 (63, [none, none, none], [], (iq_sh l, I, J, X)) r) ∧ (∀ b, w = .inr b → r = (.inl (some (.int b)), (iq_sh l, I, J, X)))) (fun v q hv r h1 h2 => zT_isWord_62_5006_l28_bok l I J X v hv r h1 h2) h r hq
set_option maxRecDepth 100000 in
theorem zT_isWord_62_5006_ok (l : Nat)   (I : iq_I) (J : iq_J) (X : iq_X) {q : Int32} (h : zT_isWord_62_5006 I = some q) : iq_Cc 5 142 [.ref 62, .ref 5006] (iq_sh l, I, J, X) (.inl (some (.int q)), (iq_sh l, I, J, X)) := by
  refine iq_Cc_of (L := [some (.ref 62), some (.ref 5006), none]) rfl rfl ?_
  unfold zT_isWord_62_5006 at h
  refine iq_G_go (k := 3) (σ' := (5, [some (.ref 62), some (.ref 5006), none], [.int (1 : Int32), .int (I 62 0)], (iq_sh l, I, J, X))) (fun _ => rfl) ?_
  rcases iq_ite h with ⟨hc_, h⟩ | ⟨hc_, h⟩
  · refine iq_G_pos (c := ¬ (I 62 0) = (1 : Int32)) (σ1 := (24, [some (.ref 62), some (.ref 5006), none], [], (iq_sh l, I, J, X))) (fun _ => rfl) hc_ ?_
    refine iq_G_go (k := 1) (σ' := (25, [some (.ref 62), some (.ref 5006), none], [.int (0 : Int32)], (iq_sh l, I, J, X))) (fun _ => rfl) ?_
    cases h
    exact iq_G_ret (fun _ => rfl)
  · refine iq_G_neg (c := ¬ (I 62 0) = (1 : Int32)) (σ1 := (8, [some (.ref 62), some (.ref 5006), none], [], (iq_sh l, I, J, X))) (fun _ => rfl) hc_ ?_
    refine iq_G_go (k := 6) (σ' := (18, [some (.ref 62), some (.ref 5006), none], [.ref 5006, .int ((I 62 4) - (I 62 1))], (iq_sh l, I, J, X))) (fun _ => rfl) ?_
    obtain ⟨q1, hq1, h⟩ := iq_bnd h
    refine iq_G_call (σ' := (21, [some (.ref 62), some (.ref 5006), none], [.int q1, .int ((I 62 4) - (I 62 1))], (iq_sh l, I, J, X))) (fun _ => rfl) (zS_J0_length_8abf5_5006_ok l  I J X hq1) rfl rfl ?_
    rcases iq_ite h with ⟨hc_, h⟩ | ⟨hc_, h⟩
    · have st_ : ∀ (z_0 : Int32) (r_ : iq_R × iq_M), z_0 = q1 → iq_Gg 4 142 (26, [some (.ref 62), some (.ref 5006), none], [], (iq_sh l, I, J, X)) r_ → iq_Gg 4 142 (21, [some (.ref 62), some (.ref 5006), none], [.int q1, .int z_0], (iq_sh l, I, J, X)) r_ := fun z_0 r_ hc_ hg_ => iq_G_pos (c := z_0 = q1) (σ1 := (26, [some (.ref 62), some (.ref 5006), none], [], (iq_sh l, I, J, X))) (fun _ => rfl) hc_ hg_
      refine st_ ((I 62 4) - (I 62 1)) _ hc_ ?_
      clear st_
      refine iq_G_go (k := 2) (σ' := (28, [some (.ref 62), some (.ref 5006), some (.int (0 : Int32))], [], (iq_sh l, I, J, X))) (fun _ => rfl) ?_
      obtain ⟨w4, hw4, h⟩ := iq_bnd h
      refine iq_G_fg (L := [some (.ref 62), some (.ref 5006), some (.int (0 : Int32))]) (And.intro rfl (And.intro rfl (And.intro rfl trivial))) ?_
      refine zT_isWord_62_5006_l28_ok l I J X hw4 _ ⟨fun a5 ha => ?_, fun b6 hb => ?_⟩
      · subst ha
        replace h := ir_smL h
        show iq_Gg 4 142 (63, [none, none, none], [], (iq_sh l, I, J, X)) _
        refine iq_G_go (k := 1) (σ' := (64, [none, none, none], [.int (1 : Int32)], (iq_sh l, I, J, X))) (fun _ => rfl) ?_
        cases h
        exact iq_G_ret (fun _ => rfl)
      · subst hb
        replace h := ir_smR h
        cases h
        rfl
    · have st_ : ∀ (z_0 : Int32) (r_ : iq_R × iq_M), ¬ (z_0 = q1) → iq_Gg 4 142 (24, [some (.ref 62), some (.ref 5006), none], [], (iq_sh l, I, J, X)) r_ → iq_Gg 4 142 (21, [some (.ref 62), some (.ref 5006), none], [.int q1, .int z_0], (iq_sh l, I, J, X)) r_ := fun z_0 r_ hc_ hg_ => iq_G_neg (c := z_0 = q1) (σ1 := (24, [some (.ref 62), some (.ref 5006), none], [], (iq_sh l, I, J, X))) (fun _ => rfl) hc_ hg_
      refine st_ ((I 62 4) - (I 62 1)) _ hc_ ?_
      clear st_
      refine iq_G_go (k := 1) (σ' := (25, [some (.ref 62), some (.ref 5006), none], [.int (0 : Int32)], (iq_sh l, I, J, X))) (fun _ => rfl) ?_
      cases h
      exact iq_G_ret (fun _ => rfl)
set_option maxRecDepth 100000 in
theorem zU_putPrice_ok (l : Nat)  (x1 : Int32) (x2 : Int32) (I : iq_I) (J : iq_J) (X : iq_X) {q : iq_I} (h : zU_putPrice x1 x2 I = some q) : iq_Cc 1 42 [.ref 38, .int x1, .int x2] (iq_sh l, I, J, X) (.inl none, (iq_sh l, q, J, X)) := by
  refine iq_Cc_of (L := [some (.ref 38), some (.int x1), some (.int x2)]) rfl rfl ?_
  unfold zU_putPrice at h
  refine iq_G_go (k := 1) (σ' := (1, [some (.ref 38), some (.int x1), some (.int x2)], [.int x1], (iq_sh l, I, J, X))) (fun _ => rfl) ?_
  rcases iq_ite h with ⟨hc_, h⟩ | ⟨hc_, h⟩
  · refine iq_G_pos (c := x1 < 0) (σ1 := (29, [some (.ref 38), some (.int x1), some (.int x2)], [], (iq_sh l, I, J, X))) (fun _ => rfl) hc_ ?_
    cases h
    exact iq_G_ret (fun _ => rfl)
  · refine iq_G_neg (c := x1 < 0) (σ1 := (4, [some (.ref 38), some (.int x1), some (.int x2)], [], (iq_sh l, I, J, X))) (fun _ => rfl) hc_ ?_
    refine iq_G_go (k := 2) (σ' := (7, [some (.ref 38), some (.int x1), some (.int x2)], [.int (8 : Int32), .int x1], (iq_sh l, I, J, X))) (fun _ => rfl) ?_
    rcases iq_ite h with ⟨hc_, h⟩ | ⟨hc_, h⟩
    · refine iq_G_pos (c := (8 : Int32) ≤ x1) (σ1 := (29, [some (.ref 38), some (.int x1), some (.int x2)], [], (iq_sh l, I, J, X))) (fun _ => rfl) hc_ ?_
      cases h
      exact iq_G_ret (fun _ => rfl)
    · refine iq_G_neg (c := (8 : Int32) ≤ x1) (σ1 := (10, [some (.ref 38), some (.int x1), some (.int x2)], [], (iq_sh l, I, J, X))) (fun _ => rfl) hc_ ?_
      refine iq_G_go (k := 4) (σ' := (16, [some (.ref 38), some (.int x1), some (.int x2)], [.int x2, .int x1, .ref 49], (iq_sh l, I, J, X))) (fun _ => rfl) ?_
      obtain ⟨hc_, h⟩ := iq_itn h
      refine iq_G_pos (c := iq_in x1 8) (σ1 := (17, [some (.ref 38), some (.int x1), some (.int x2)], [], (iq_sh l, (iq_upI I 49 (Int32.toNatClampNeg x1) x2), J, X))) (fun _ => rfl) hc_ ?_
      obtain ⟨I1, eI1, h⟩ := ir_letG h
      rw [← eI1]
      clear eI1
      refine iq_G_go (k := 7) (σ' := (26, [some (.ref 38), some (.int x1), some (.int x2)], [.int ((I1 38 5) ||| ((1 : Int32) <<< (x1 &&& 31))), .ref 38], (iq_sh l, I1, J, X))) (fun _ => rfl) ?_
      refine iq_G_go (k := 1) (σ' := (29, [some (.ref 38), some (.int x1), some (.int x2)], [], (iq_sh l, (iq_upI I1 38 5 ((I1 38 5) ||| ((1 : Int32) <<< (x1 &&& 31)))), J, X))) (fun _ => rfl) ?_
      obtain ⟨I2, eI2, h⟩ := ir_letG h
      rw [← eI2]
      clear eI2
      cases h
      exact iq_G_ret (fun _ => rfl)
set_option maxRecDepth 100000 in
theorem zR_readCost_ok (l : Nat)   (I : iq_I) (J : iq_J) (X : iq_X) {q : Int32 × iq_I} (h : zR_readCost I = some q) : iq_Cc 7 92 [.ref 61] (iq_sh l, I, J, X) (.inl (some (.int q.1)), (iq_sh l, q.2, J, X)) := by
  refine iq_Cc_of (L := [some (.ref 61), none]) rfl rfl ?_
  unfold zR_readCost at h
  refine iq_G_go (k := 2) (σ' := (4, [some (.ref 61), none], [.ref 62], (iq_sh l, I, J, X))) (fun _ => rfl) ?_
  obtain ⟨q1, hq1, h⟩ := iq_bnd h
  refine iq_G_call (σ' := (7, [some (.ref 61), none], [], (iq_sh l, q1, J, X))) (fun _ => rfl) (zT_next_ok l  I J X hq1) rfl rfl ?_
  refine iq_G_go (k := 2) (σ' := (10, [some (.ref 61), none], [.int (7 : Int32), .ref 61], (iq_sh l, q1, J, X))) (fun _ => rfl) ?_
  obtain ⟨q2, hq2, h⟩ := iq_bnd h
  refine iq_G_call (σ' := (13, [some (.ref 61), none], [.int q2.1], (iq_sh l, q2.2, J, X))) (fun _ => rfl) (zR_isNumberTo_ok l (7 : Int32) q1 J X hq2) rfl rfl ?_
  rcases iq_ite h with ⟨hc_, h⟩ | ⟨hc_, h⟩
  · refine iq_G_pos (c := ¬ q2.1 = 0) (σ1 := (18, [some (.ref 61), none], [], (iq_sh l, q2.2, J, X))) (fun _ => rfl) hc_ ?_
    refine iq_G_go (k := 2) (σ' := (22, [some (.ref 61), none], [.ref 62], (iq_sh l, q2.2, J, X))) (fun _ => rfl) ?_
    obtain ⟨q3, hq3, h⟩ := iq_bnd h
    refine iq_G_call (σ' := (25, [some (.ref 61), none], [.int q3], (iq_sh l, q2.2, J, X))) (fun _ => rfl) (zT_number_ok l  q2.2 J X hq3) rfl rfl ?_
    refine iq_G_go (k := 8) (σ' := (37, [some (.ref 61), some (.int q3)], [.int (((q2.2 38 5) >>> (q3 &&& 31)) &&& (1 : Int32))], (iq_sh l, q2.2, J, X))) (fun _ => rfl) ?_
    rcases iq_ite h with ⟨hc_, h⟩ | ⟨hc_, h⟩
    · refine iq_G_pos (c := (((q2.2 38 5) >>> (q3 &&& 31)) &&& (1 : Int32)) = 0) (σ1 := (46, [some (.ref 61), some (.int q3)], [], (iq_sh l, q2.2, J, X))) (fun _ => rfl) hc_ ?_
      refine iq_G_go (k := 2) (σ' := (50, [some (.ref 61), some (.int q3)], [.ref 62], (iq_sh l, q2.2, J, X))) (fun _ => rfl) ?_
      obtain ⟨q4, hq4, h⟩ := iq_bnd h
      refine iq_G_call (σ' := (53, [some (.ref 61), some (.int q3)], [], (iq_sh l, q4, J, X))) (fun _ => rfl) (zT_next_ok l  q2.2 J X hq4) rfl rfl ?_
      refine iq_G_go (k := 2) (σ' := (56, [some (.ref 61), some (.int q3)], [.int (9 : Int32), .ref 61], (iq_sh l, q4, J, X))) (fun _ => rfl) ?_
      obtain ⟨q5, hq5, h⟩ := iq_bnd h
      refine iq_G_call (σ' := (59, [some (.ref 61), some (.int q3)], [.int q5.1], (iq_sh l, q5.2, J, X))) (fun _ => rfl) (zR_isNumberTo_ok l (9 : Int32) q4 J X hq5) rfl rfl ?_
      rcases iq_ite h with ⟨hc_, h⟩ | ⟨hc_, h⟩
      · refine iq_G_pos (c := ¬ q5.1 = 0) (σ1 := (64, [some (.ref 61), some (.int q3)], [], (iq_sh l, q5.2, J, X))) (fun _ => rfl) hc_ ?_
        refine iq_G_go (k := 5) (σ' := (73, [some (.ref 61), some (.int q3)], [.ref 62, .int q3, .ref 38], (iq_sh l, q5.2, J, X))) (fun _ => rfl) ?_
        obtain ⟨q6, hq6, h⟩ := iq_bnd h
        refine iq_G_call (σ' := (76, [some (.ref 61), some (.int q3)], [.int q6, .int q3, .ref 38], (iq_sh l, q5.2, J, X))) (fun _ => rfl) (zT_number_ok l  q5.2 J X hq6) rfl rfl ?_
        obtain ⟨q7, hq7, h⟩ := iq_bnd h
        refine iq_G_call (σ' := (79, [some (.ref 61), some (.int q3)], [], (iq_sh l, q7, J, X))) (fun _ => rfl) (zU_putPrice_ok l q3 q6 q5.2 J X hq7) rfl rfl ?_
        refine iq_G_go (k := 2) (σ' := (83, [some (.ref 61), some (.int q3)], [.ref 62], (iq_sh l, q7, J, X))) (fun _ => rfl) ?_
        obtain ⟨q8, hq8, h⟩ := iq_bnd h
        refine iq_G_call (σ' := (86, [some (.ref 61), some (.int q3)], [], (iq_sh l, q8, J, X))) (fun _ => rfl) (zT_next_ok l  q7 J X hq8) rfl rfl ?_
        refine iq_G_go (k := 1) (σ' := (87, [some (.ref 61), some (.int q3)], [.ref 61], (iq_sh l, q8, J, X))) (fun _ => rfl) ?_
        obtain ⟨q9, hq9, h⟩ := iq_bnd h
        refine iq_G_call (σ' := (90, [some (.ref 61), some (.int q3)], [.int q9.1], (iq_sh l, q9.2, J, X))) (fun _ => rfl) (zR_passLineEnd_ok l  q8 J X hq9) rfl rfl ?_
        obtain ⟨hc_, h⟩ := iq_itn h
        have h := Option.some.inj h
        subst h
        exact iq_G_rif (c := q9.1 = 0 ∨ q9.1 = 1) (fun _ => rfl) hc_
      · refine iq_G_neg (c := ¬ q5.1 = 0) (σ1 := (62, [some (.ref 61), some (.int q3)], [], (iq_sh l, q5.2, J, X))) (fun _ => rfl) hc_ ?_
        refine iq_G_go (k := 1) (σ' := (63, [some (.ref 61), some (.int q3)], [.int (0 : Int32)], (iq_sh l, q5.2, J, X))) (fun _ => rfl) ?_
        cases h
        exact iq_G_ret (fun _ => rfl)
    · refine iq_G_neg (c := (((q2.2 38 5) >>> (q3 &&& 31)) &&& (1 : Int32)) = 0) (σ1 := (40, [some (.ref 61), some (.int q3)], [], (iq_sh l, q2.2, J, X))) (fun _ => rfl) hc_ ?_
      refine iq_G_go (k := 2) (σ' := (42, [some (.ref 61), some (.int q3)], [.int (4 : Int32), .ref 61], (iq_sh l, q2.2, J, X))) (fun _ => rfl) ?_
      obtain ⟨q10, hq10, h⟩ := iq_bnd h
      refine iq_G_call (σ' := (45, [some (.ref 61), some (.int q3)], [.int q10.1], (iq_sh l, q10.2, J, X))) (fun _ => rfl) (zR_refuse_ok l (4 : Int32) q2.2 J X hq10) rfl rfl ?_
      obtain ⟨hc_, h⟩ := iq_itn h
      have h := Option.some.inj h
      subst h
      exact iq_G_rif (c := q10.1 = 0 ∨ q10.1 = 1) (fun _ => rfl) hc_
  · refine iq_G_neg (c := ¬ q2.1 = 0) (σ1 := (16, [some (.ref 61), none], [], (iq_sh l, q2.2, J, X))) (fun _ => rfl) hc_ ?_
    refine iq_G_go (k := 1) (σ' := (17, [some (.ref 61), none], [.int (0 : Int32)], (iq_sh l, q2.2, J, X))) (fun _ => rfl) ?_
    cases h
    exact iq_G_ret (fun _ => rfl)
set_option maxRecDepth 100000 in
theorem zS_J0_coder_7d493_5007_ok (l : Nat)   (I : iq_I) (J : iq_J) (X : iq_X) {q : Int32} (h : zS_J0_coder_7d493_5007 I = some q) : iq_Cc 1 316 [.ref 5007] (iq_sh l, I, J, X) (.inl (some (.int q)), (iq_sh l, I, J, X)) := by
  refine iq_Cc_of (L := [some (.ref 5007)]) rfl rfl ?_
  unfold zS_J0_coder_7d493_5007 at h
  refine iq_G_go (k := 1) (σ' := (3, [some (.ref 5007)], [.int (1 : Int32)], (iq_sh l, I, J, X))) (fun _ => rfl) ?_
  refine iq_G_go (k := 1) (σ' := (6, [some (.ref 5007)], [], (iq_sh l, I, J, X))) (fun _ => rfl) ?_
  refine iq_G_go (k := 3) (σ' := (14, [some (.ref 5007)], [.int (0 : Int32)], (iq_sh l, I, J, X))) (fun _ => rfl) ?_
  cases h
  exact iq_G_ret (fun _ => rfl)
set_option maxRecDepth 100000 in
theorem zS_J0_length_8abf5_5007_ok (l : Nat)   (I : iq_I) (J : iq_J) (X : iq_X) {q : Int32} (h : zS_J0_length_8abf5_5007 I = some q) : iq_Cc 2 312 [.ref 5007] (iq_sh l, I, J, X) (.inl (some (.int q)), (iq_sh l, I, J, X)) := by
  refine iq_Cc_of (L := [some (.ref 5007)]) rfl rfl ?_
  unfold zS_J0_length_8abf5_5007 at h
  refine iq_G_go (k := 4) (σ' := (6, [some (.ref 5007)], [.ref 5007, .int (6 : Int32)], (iq_sh l, I, J, X))) (fun _ => rfl) ?_
  obtain ⟨q1, hq1, h⟩ := iq_bnd h
  refine iq_G_call (σ' := (9, [some (.ref 5007)], [.int q1, .int (6 : Int32)], (iq_sh l, I, J, X))) (fun _ => rfl) (zS_J0_coder_7d493_5007_ok l  I J X hq1) rfl rfl ?_
  refine iq_G_go (k := 1) (σ' := (10, [some (.ref 5007)], [.int ((6 : Int32) >>> (q1 &&& 31))], (iq_sh l, I, J, X))) (fun _ => rfl) ?_
  cases h
  exact iq_G_ret (fun _ => rfl)
set_option maxRecDepth 100000 in
theorem zS_J0_isLatin1_aae02_5007_ok (l : Nat)   (I : iq_I) (J : iq_J) (X : iq_X) {q : Int32} (h : zS_J0_isLatin1_aae02_5007 I = some q) : iq_Cc 1 317 [.ref 5007] (iq_sh l, I, J, X) (.inl (some (.int q)), (iq_sh l, I, J, X)) := by
  refine iq_Cc_of (L := [some (.ref 5007)]) rfl rfl ?_
  unfold zS_J0_isLatin1_aae02_5007 at h
  refine iq_G_go (k := 1) (σ' := (3, [some (.ref 5007)], [.int (1 : Int32)], (iq_sh l, I, J, X))) (fun _ => rfl) ?_
  refine iq_G_go (k := 1) (σ' := (6, [some (.ref 5007)], [], (iq_sh l, I, J, X))) (fun _ => rfl) ?_
  refine iq_G_go (k := 2) (σ' := (10, [some (.ref 5007)], [.int (0 : Int32)], (iq_sh l, I, J, X))) (fun _ => rfl) ?_
  refine iq_G_go (k := 1) (σ' := (13, [some (.ref 5007)], [], (iq_sh l, I, J, X))) (fun _ => rfl) ?_
  refine iq_G_go (k := 2) (σ' := (18, [some (.ref 5007)], [.int (1 : Int32)], (iq_sh l, I, J, X))) (fun _ => rfl) ?_
  cases h
  exact iq_G_ret (fun _ => rfl)
set_option maxRecDepth 100000 in
theorem zS_J1_charAt_3b067_6007_ok (l : Nat)  (x1 : Int32) (I : iq_I) (J : iq_J) (X : iq_X) {q : Int32} (h : zS_J1_charAt_3b067_6007 x1 I = some q) : iq_Cc 3 319 [.ref 6007, .int x1] (iq_sh l, I, J, X) (.inl (some (.int q)), (iq_sh l, I, J, X)) := by
  refine iq_Cc_of (L := [some (.ref 6007), some (.int x1)]) rfl rfl ?_
  unfold zS_J1_charAt_3b067_6007 at h
  refine iq_G_go (k := 3) (σ' := (3, [some (.ref 6007), some (.int x1)], [.int (6 : Int32), .int x1], (iq_sh l, I, J, X))) (fun _ => rfl) ?_
  obtain ⟨q1, hq1, h⟩ := iq_bnd h
  refine iq_G_call (σ' := (6, [some (.ref 6007), some (.int x1)], [], (iq_sh l, I, J, X))) (fun _ => rfl) (zS_J0_checkIndex_df160_ok l x1 (6 : Int32) I J X hq1) rfl rfl ?_
  refine iq_G_go (k := 2) (σ' := (8, [some (.ref 6007), some (.int x1)], [.int x1, .ref 6007], (iq_sh l, I, J, X))) (fun _ => rfl) ?_
  obtain ⟨hc_, h⟩ := iq_itn h
  refine iq_G_pos (c := iq_in x1 6) (σ1 := (9, [some (.ref 6007), some (.int x1)], [.int (ir_chr 7 (Int32.toNatClampNeg x1))], (iq_sh l, I, J, X))) (fun _ => rfl) hc_ ?_
  refine iq_G_go (k := 3) (σ' := (14, [some (.ref 6007), some (.int x1)], [.int ((Int32.toUInt32 ((ir_chr 7 (Int32.toNatClampNeg x1)) &&& (255 : Int32)) % 65536).toInt32)], (iq_sh l, I, J, X))) (fun _ => rfl) ?_
  obtain ⟨hc_, h⟩ := iq_itn h
  have h := Option.some.inj h
  subst h
  exact iq_G_rif (c := narrow .char (.int ((Int32.toUInt32 ((ir_chr 7 (Int32.toNatClampNeg x1)) &&& (255 : Int32)) % 65536).toInt32)) = .int ((Int32.toUInt32 ((ir_chr 7 (Int32.toNatClampNeg x1)) &&& (255 : Int32)) % 65536).toInt32)) (fun _ => rfl) hc_
set_option maxRecDepth 100000 in
theorem zS_J0_charAt_5068e_5007_ok (l : Nat)  (x1 : Int32) (I : iq_I) (J : iq_J) (X : iq_X) {q : Int32} (h : zS_J0_charAt_5068e_5007 x1 I = some q) : iq_Cc 4 313 [.ref 5007, .int x1] (iq_sh l, I, J, X) (.inl (some (.int q)), (iq_sh l, I, J, X)) := by
  refine iq_Cc_of (L := [some (.ref 5007), some (.int x1)]) rfl rfl ?_
  unfold zS_J0_charAt_5068e_5007 at h
  refine iq_G_go (k := 1) (σ' := (1, [some (.ref 5007), some (.int x1)], [.ref 5007], (iq_sh l, I, J, X))) (fun _ => rfl) ?_
  obtain ⟨q1, hq1, h⟩ := iq_bnd h
  refine iq_G_call (σ' := (4, [some (.ref 5007), some (.int x1)], [.int q1], (iq_sh l, I, J, X))) (fun _ => rfl) (zS_J0_isLatin1_aae02_5007_ok l  I J X hq1) rfl rfl ?_
  rcases iq_ite h with ⟨hc_, h⟩ | ⟨hc_, h⟩
  · refine iq_G_pos (c := q1 = 0) (σ1 := (16, [some (.ref 5007), some (.int x1)], [], (iq_sh l, I, J, X))) (fun _ => rfl) hc_ ?_
    cases h
  · refine iq_G_neg (c := q1 = 0) (σ1 := (7, [some (.ref 5007), some (.int x1)], [], (iq_sh l, I, J, X))) (fun _ => rfl) hc_ ?_
    refine iq_G_go (k := 3) (σ' := (12, [some (.ref 5007), some (.int x1)], [.int x1, .ref 6007], (iq_sh l, I, J, X))) (fun _ => rfl) ?_
    obtain ⟨q2, hq2, h⟩ := iq_bnd h
    refine iq_G_call (σ' := (15, [some (.ref 5007), some (.int x1)], [.int q2], (iq_sh l, I, J, X))) (fun _ => rfl) (zS_J1_charAt_3b067_6007_ok l x1 I J X hq2) rfl rfl ?_
    obtain ⟨hc_, h⟩ := iq_itn h
    have h := Option.some.inj h
    subst h
    exact iq_G_rif (c := narrow .char (.int q2) = .int q2) (fun _ => rfl) hc_
set_option maxRecDepth 100000 in
theorem zT_isWord_62_5007_l28_bok (l : Nat)   (I : iq_I) (J : iq_J) (X : iq_X) (x2 : Int32)  {q : (Int32) ⊕ ((Unit) ⊕ (Int32))} (h : zT_isWord_62_5007_l28_b I x2 = some q) (r : iq_R × iq_M) (hc : ∀ v, q = .inl v → iq_Gg 4 142 (28, [some (.ref 62), some (.ref 5007), some (.int v)], [], (iq_sh l, I, J, X)) r) (hx : ∀ w, q = .inr w → (∀ a, w = .inl a → iq_Gg 4 142 (63, [none, none, none], [], (iq_sh l, I, J, X)) r) ∧ (∀ b, w = .inr b → r = (.inl (some (.int b)), (iq_sh l, I, J, X)))) : iq_Gg 4 142 (28, [some (.ref 62), some (.ref 5007), some (.int x2)], [], (iq_sh l, I, J, X)) r := by
  unfold zT_isWord_62_5007_l28_b at h
  refine iq_G_go (k := 2) (σ' := (30, [some (.ref 62), some (.ref 5007), some (.int x2)], [.ref 5007, .int x2], (iq_sh l, I, J, X))) (fun _ => rfl) ?_
  obtain ⟨q2, hq2, h⟩ := iq_bnd h
  refine iq_G_call (σ' := (33, [some (.ref 62), some (.ref 5007), some (.int x2)], [.int q2, .int x2], (iq_sh l, I, J, X))) (fun _ => rfl) (zS_J0_length_8abf5_5007_ok l  I J X hq2) rfl rfl ?_
  rcases iq_ite h with ⟨hc_, h⟩ | ⟨hc_, h⟩
  · refine iq_G_pos (c := q2 ≤ x2) (σ1 := (63, [some (.ref 62), some (.ref 5007), some (.int x2)], [], (iq_sh l, I, J, X))) (fun _ => rfl) hc_ ?_
    cases h
    exact iq_G_fg (L := [none, none, none]) trivial ((hx (.inl ()) rfl).1 () rfl)
  · refine iq_G_neg (c := q2 ≤ x2) (σ1 := (36, [some (.ref 62), some (.ref 5007), some (.int x2)], [], (iq_sh l, I, J, X))) (fun _ => rfl) hc_ ?_
    refine iq_G_go (k := 6) (σ' := (46, [some (.ref 62), some (.ref 5007), some (.int x2)], [.int ((I 62 1) + x2), .ref 2], (iq_sh l, I, J, X))) (fun _ => rfl) ?_
    obtain ⟨hc_, h⟩ := iq_itn h
    refine iq_G_pos (c := iq_in ((I 62 1) + x2) 700) (σ1 := (47, [some (.ref 62), some (.ref 5007), some (.int x2)], [.int (I 2 (Int32.toNatClampNeg ((I 62 1) + x2)))], (iq_sh l, I, J, X))) (fun _ => rfl) hc_ ?_
    refine iq_G_go (k := 2) (σ' := (49, [some (.ref 62), some (.ref 5007), some (.int x2)], [.int x2, .ref 5007, .int (I 2 (Int32.toNatClampNeg ((I 62 1) + x2)))], (iq_sh l, I, J, X))) (fun _ => rfl) ?_
    obtain ⟨q3, hq3, h⟩ := iq_bnd h
    refine iq_G_call (σ' := (52, [some (.ref 62), some (.ref 5007), some (.int x2)], [.int q3, .int (I 2 (Int32.toNatClampNeg ((I 62 1) + x2)))], (iq_sh l, I, J, X))) (fun _ => rfl) (zS_J0_charAt_5068e_5007_ok l x2 I J X hq3) rfl rfl ?_
    rcases iq_ite h with ⟨hc_, h⟩ | ⟨hc_, h⟩
    · refine iq_G_pos (c := (I 2 (Int32.toNatClampNeg ((I 62 1) + x2))) = q3) (σ1 := (57, [some (.ref 62), some (.ref 5007), some (.int x2)], [], (iq_sh l, I, J, X))) (fun _ => rfl) hc_ ?_
      refine iq_G_go (k := 2) (σ' := (28, [some (.ref 62), some (.ref 5007), some (.int (x2 + (1 : Int32)))], [], (iq_sh l, I, J, X))) (fun _ => rfl) ?_
      cases h
      exact iq_G_fg (L := [some (.ref 62), some (.ref 5007), some (.int (x2 + (1 : Int32)))]) (And.intro rfl (And.intro rfl (And.intro rfl trivial))) (hc (x2 + (1 : Int32)) rfl)
    · refine iq_G_neg (c := (I 2 (Int32.toNatClampNeg ((I 62 1) + x2))) = q3) (σ1 := (55, [some (.ref 62), some (.ref 5007), some (.int x2)], [], (iq_sh l, I, J, X))) (fun _ => rfl) hc_ ?_
      refine iq_G_go (k := 1) (σ' := (56, [some (.ref 62), some (.ref 5007), some (.int x2)], [.int (0 : Int32)], (iq_sh l, I, J, X))) (fun _ => rfl) ?_
      cases h
      obtain rfl := (hx _ rfl).2 _ rfl
      exact iq_G_ret (fun _ => rfl)
set_option maxRecDepth 100000 in
theorem zT_isWord_62_5007_l28_ok (l : Nat)   (I : iq_I) (J : iq_J) (X : iq_X) {n : Nat} {v : Int32} {w : (Unit) ⊕ (Int32)} (h : zT_isWord_62_5007_l28 I n v = some w) (r : iq_R × iq_M) (hq : (∀ a, w = .inl a → iq_Gg 4 142 (63, [none, none, none], [], (iq_sh l, I, J, X)) r) ∧ (∀ b, w = .inr b → r = (.inl (some (.int b)), (iq_sh l, I, J, X)))) : iq_Gg 4 142 (28, [some (.ref 62), some (.ref 5007), some (.int v)], [], (iq_sh l, I, J, X)) r :=
  iq_lp_ok (σ := fun v => (28, [some (.ref 62), some (.ref 5007), some (.int v)], [], (iq_sh l, I, J, X))) (Q := fun w r => (∀ a, w = .inl a → iq_Gg 4 142 (63, [none, none, none], [], (iq_sh l, I, J, X)) r) ∧ (∀ b, w = .inr b → r = (.inl (some (.int b)), (iq_sh l, I, J, X)))) (fun v q hv r h1 h2 => zT_isWord_62_5007_l28_bok l I J X v hv r h1 h2) h r hq
set_option maxRecDepth 100000 in
theorem zT_isWord_62_5007_ok (l : Nat)   (I : iq_I) (J : iq_J) (X : iq_X) {q : Int32} (h : zT_isWord_62_5007 I = some q) : iq_Cc 5 142 [.ref 62, .ref 5007] (iq_sh l, I, J, X) (.inl (some (.int q)), (iq_sh l, I, J, X)) := by
  refine iq_Cc_of (L := [some (.ref 62), some (.ref 5007), none]) rfl rfl ?_
  unfold zT_isWord_62_5007 at h
  refine iq_G_go (k := 3) (σ' := (5, [some (.ref 62), some (.ref 5007), none], [.int (1 : Int32), .int (I 62 0)], (iq_sh l, I, J, X))) (fun _ => rfl) ?_
  rcases iq_ite h with ⟨hc_, h⟩ | ⟨hc_, h⟩
  · refine iq_G_pos (c := ¬ (I 62 0) = (1 : Int32)) (σ1 := (24, [some (.ref 62), some (.ref 5007), none], [], (iq_sh l, I, J, X))) (fun _ => rfl) hc_ ?_
    refine iq_G_go (k := 1) (σ' := (25, [some (.ref 62), some (.ref 5007), none], [.int (0 : Int32)], (iq_sh l, I, J, X))) (fun _ => rfl) ?_
    cases h
    exact iq_G_ret (fun _ => rfl)
  · refine iq_G_neg (c := ¬ (I 62 0) = (1 : Int32)) (σ1 := (8, [some (.ref 62), some (.ref 5007), none], [], (iq_sh l, I, J, X))) (fun _ => rfl) hc_ ?_
    refine iq_G_go (k := 6) (σ' := (18, [some (.ref 62), some (.ref 5007), none], [.ref 5007, .int ((I 62 4) - (I 62 1))], (iq_sh l, I, J, X))) (fun _ => rfl) ?_
    obtain ⟨q1, hq1, h⟩ := iq_bnd h
    refine iq_G_call (σ' := (21, [some (.ref 62), some (.ref 5007), none], [.int q1, .int ((I 62 4) - (I 62 1))], (iq_sh l, I, J, X))) (fun _ => rfl) (zS_J0_length_8abf5_5007_ok l  I J X hq1) rfl rfl ?_
    rcases iq_ite h with ⟨hc_, h⟩ | ⟨hc_, h⟩
    · have st_ : ∀ (z_0 : Int32) (r_ : iq_R × iq_M), z_0 = q1 → iq_Gg 4 142 (26, [some (.ref 62), some (.ref 5007), none], [], (iq_sh l, I, J, X)) r_ → iq_Gg 4 142 (21, [some (.ref 62), some (.ref 5007), none], [.int q1, .int z_0], (iq_sh l, I, J, X)) r_ := fun z_0 r_ hc_ hg_ => iq_G_pos (c := z_0 = q1) (σ1 := (26, [some (.ref 62), some (.ref 5007), none], [], (iq_sh l, I, J, X))) (fun _ => rfl) hc_ hg_
      refine st_ ((I 62 4) - (I 62 1)) _ hc_ ?_
      clear st_
      refine iq_G_go (k := 2) (σ' := (28, [some (.ref 62), some (.ref 5007), some (.int (0 : Int32))], [], (iq_sh l, I, J, X))) (fun _ => rfl) ?_
      obtain ⟨w4, hw4, h⟩ := iq_bnd h
      refine iq_G_fg (L := [some (.ref 62), some (.ref 5007), some (.int (0 : Int32))]) (And.intro rfl (And.intro rfl (And.intro rfl trivial))) ?_
      refine zT_isWord_62_5007_l28_ok l I J X hw4 _ ⟨fun a5 ha => ?_, fun b6 hb => ?_⟩
      · subst ha
        replace h := ir_smL h
        show iq_Gg 4 142 (63, [none, none, none], [], (iq_sh l, I, J, X)) _
        refine iq_G_go (k := 1) (σ' := (64, [none, none, none], [.int (1 : Int32)], (iq_sh l, I, J, X))) (fun _ => rfl) ?_
        cases h
        exact iq_G_ret (fun _ => rfl)
      · subst hb
        replace h := ir_smR h
        cases h
        rfl
    · have st_ : ∀ (z_0 : Int32) (r_ : iq_R × iq_M), ¬ (z_0 = q1) → iq_Gg 4 142 (24, [some (.ref 62), some (.ref 5007), none], [], (iq_sh l, I, J, X)) r_ → iq_Gg 4 142 (21, [some (.ref 62), some (.ref 5007), none], [.int q1, .int z_0], (iq_sh l, I, J, X)) r_ := fun z_0 r_ hc_ hg_ => iq_G_neg (c := z_0 = q1) (σ1 := (24, [some (.ref 62), some (.ref 5007), none], [], (iq_sh l, I, J, X))) (fun _ => rfl) hc_ hg_
      refine st_ ((I 62 4) - (I 62 1)) _ hc_ ?_
      clear st_
      refine iq_G_go (k := 1) (σ' := (25, [some (.ref 62), some (.ref 5007), none], [.int (0 : Int32)], (iq_sh l, I, J, X))) (fun _ => rfl) ?_
      cases h
      exact iq_G_ret (fun _ => rfl)
set_option maxRecDepth 100000 in
theorem zG_putSaying_ok (l : Nat)  (x1 : Int32) (I : iq_I) (J : iq_J) (X : iq_X) {q : iq_I} (h : zG_putSaying x1 I = some q) : iq_Cc 1 7 [.ref 50, .int x1] (iq_sh l, I, J, X) (.inl none, (iq_sh l, q, J, X)) := by
  refine iq_Cc_of (L := [some (.ref 50), some (.int x1)]) rfl rfl ?_
  unfold zG_putSaying at h
  refine iq_G_go (k := 3) (σ' := (5, [some (.ref 50), some (.int x1)], [.int (5 : Int32), .int (I 50 0)], (iq_sh l, I, J, X))) (fun _ => rfl) ?_
  rcases iq_ite h with ⟨hc_, h⟩ | ⟨hc_, h⟩
  · refine iq_G_pos (c := (5 : Int32) ≤ (I 50 0)) (σ1 := (38, [some (.ref 50), some (.int x1)], [], (iq_sh l, I, J, X))) (fun _ => rfl) hc_ ?_
    cases h
    exact iq_G_ret (fun _ => rfl)
  · refine iq_G_neg (c := (5 : Int32) ≤ (I 50 0)) (σ1 := (8, [some (.ref 50), some (.int x1)], [], (iq_sh l, I, J, X))) (fun _ => rfl) hc_ ?_
    refine iq_G_go (k := 5) (σ' := (17, [some (.ref 50), some (.int x1)], [.int x1, .int (I 50 0), .ref 51], (iq_sh l, I, J, X))) (fun _ => rfl) ?_
    obtain ⟨hc_, h⟩ := iq_itn h
    refine iq_G_pos (c := iq_in (I 50 0) 5) (σ1 := (18, [some (.ref 50), some (.int x1)], [], (iq_sh l, (iq_upI I 51 (Int32.toNatClampNeg (I 50 0)) x1), J, X))) (fun _ => rfl) hc_ ?_
    obtain ⟨I1, eI1, h⟩ := ir_letG h
    rw [← eI1]
    clear eI1
    refine iq_G_go (k := 5) (σ' := (27, [some (.ref 50), some (.int x1)], [.int (0 : Int32), .int (I1 50 0), .ref 52], (iq_sh l, I1, J, X))) (fun _ => rfl) ?_
    obtain ⟨hc_, h⟩ := iq_itn h
    refine iq_G_pos (c := iq_in (I1 50 0) 5) (σ1 := (28, [some (.ref 50), some (.int x1)], [], (iq_sh l, (iq_upI I1 52 (Int32.toNatClampNeg (I1 50 0)) (0 : Int32)), J, X))) (fun _ => rfl) hc_ ?_
    obtain ⟨I2, eI2, h⟩ := ir_letG h
    rw [← eI2]
    clear eI2
    refine iq_G_go (k := 5) (σ' := (35, [some (.ref 50), some (.int x1)], [.int ((I2 50 0) + (1 : Int32)), .ref 50], (iq_sh l, I2, J, X))) (fun _ => rfl) ?_
    refine iq_G_go (k := 1) (σ' := (38, [some (.ref 50), some (.int x1)], [], (iq_sh l, (iq_upI I2 50 0 ((I2 50 0) + (1 : Int32))), J, X))) (fun _ => rfl) ?_
    obtain ⟨I3, eI3, h⟩ := ir_letG h
    rw [← eI3]
    clear eI3
    cases h
    exact iq_G_ret (fun _ => rfl)
set_option maxRecDepth 100000 in
theorem zU_leadsTo_38_ok (l : Nat)  (x1 : Int32) (x2 : Int32) (I : iq_I) (J : iq_J) (X : iq_X) {q : Int32} (h : zU_leadsTo_38 x1 x2 I = some q) : iq_Cc 1 49 [.ref 38, .int x1, .int x2] (iq_sh l, I, J, X) (.inl (some (.int q)), (iq_sh l, I, J, X)) := by
  refine iq_Cc_of (L := [some (.ref 38), some (.int x1), some (.int x2)]) rfl rfl ?_
  unfold zU_leadsTo_38 at h
  refine iq_G_go (k := 1) (σ' := (1, [some (.ref 38), some (.int x1), some (.int x2)], [.int x1], (iq_sh l, I, J, X))) (fun _ => rfl) ?_
  rcases iq_ite h with ⟨hc_, h⟩ | ⟨hc_, h⟩
  · refine iq_G_pos (c := x1 < 0) (σ1 := (24, [some (.ref 38), some (.int x1), some (.int x2)], [], (iq_sh l, I, J, X))) (fun _ => rfl) hc_ ?_
    refine iq_G_go (k := 1) (σ' := (25, [some (.ref 38), some (.int x1), some (.int x2)], [.int (-1 : Int32)], (iq_sh l, I, J, X))) (fun _ => rfl) ?_
    cases h
    exact iq_G_ret (fun _ => rfl)
  · refine iq_G_neg (c := x1 < 0) (σ1 := (4, [some (.ref 38), some (.int x1), some (.int x2)], [], (iq_sh l, I, J, X))) (fun _ => rfl) hc_ ?_
    refine iq_G_go (k := 3) (σ' := (9, [some (.ref 38), some (.int x1), some (.int x2)], [.int (I 38 0), .int x1], (iq_sh l, I, J, X))) (fun _ => rfl) ?_
    rcases iq_ite h with ⟨hc_, h⟩ | ⟨hc_, h⟩
    · refine iq_G_pos (c := (I 38 0) ≤ x1) (σ1 := (24, [some (.ref 38), some (.int x1), some (.int x2)], [], (iq_sh l, I, J, X))) (fun _ => rfl) hc_ ?_
      refine iq_G_go (k := 1) (σ' := (25, [some (.ref 38), some (.int x1), some (.int x2)], [.int (-1 : Int32)], (iq_sh l, I, J, X))) (fun _ => rfl) ?_
      cases h
      exact iq_G_ret (fun _ => rfl)
    · refine iq_G_neg (c := (I 38 0) ≤ x1) (σ1 := (12, [some (.ref 38), some (.int x1), some (.int x2)], [], (iq_sh l, I, J, X))) (fun _ => rfl) hc_ ?_
      refine iq_G_go (k := 1) (σ' := (13, [some (.ref 38), some (.int x1), some (.int x2)], [.int x2], (iq_sh l, I, J, X))) (fun _ => rfl) ?_
      rcases iq_ite h with ⟨hc_, h⟩ | ⟨hc_, h⟩
      · refine iq_G_pos (c := x2 < 0) (σ1 := (24, [some (.ref 38), some (.int x1), some (.int x2)], [], (iq_sh l, I, J, X))) (fun _ => rfl) hc_ ?_
        refine iq_G_go (k := 1) (σ' := (25, [some (.ref 38), some (.int x1), some (.int x2)], [.int (-1 : Int32)], (iq_sh l, I, J, X))) (fun _ => rfl) ?_
        cases h
        exact iq_G_ret (fun _ => rfl)
      · refine iq_G_neg (c := x2 < 0) (σ1 := (16, [some (.ref 38), some (.int x1), some (.int x2)], [], (iq_sh l, I, J, X))) (fun _ => rfl) hc_ ?_
        refine iq_G_go (k := 3) (σ' := (21, [some (.ref 38), some (.int x1), some (.int x2)], [.int (I 38 2), .int x2], (iq_sh l, I, J, X))) (fun _ => rfl) ?_
        rcases iq_ite h with ⟨hc_, h⟩ | ⟨hc_, h⟩
        · refine iq_G_pos (c := x2 < (I 38 2)) (σ1 := (26, [some (.ref 38), some (.int x1), some (.int x2)], [], (iq_sh l, I, J, X))) (fun _ => rfl) hc_ ?_
          refine iq_G_go (k := 8) (σ' := (39, [some (.ref 38), some (.int x1), some (.int x2)], [.int x2, .ref 40, .int (x1 * (8 : Int32)), .ref 48], (iq_sh l, I, J, X))) (fun _ => rfl) ?_
          obtain ⟨hc_, h⟩ := iq_itn h
          refine iq_G_pos (c := iq_in x2 14) (σ1 := (40, [some (.ref 38), some (.int x1), some (.int x2)], [.int (I 40 (Int32.toNatClampNeg x2)), .int (x1 * (8 : Int32)), .ref 48], (iq_sh l, I, J, X))) (fun _ => rfl) hc_ ?_
          refine iq_G_go (k := 1) (σ' := (41, [some (.ref 38), some (.int x1), some (.int x2)], [.int ((x1 * (8 : Int32)) + (I 40 (Int32.toNatClampNeg x2))), .ref 48], (iq_sh l, I, J, X))) (fun _ => rfl) ?_
          obtain ⟨hc_, h⟩ := iq_itn h
          refine iq_G_pos (c := iq_in ((x1 * (8 : Int32)) + (I 40 (Int32.toNatClampNeg x2))) 80) (σ1 := (42, [some (.ref 38), some (.int x1), some (.int x2)], [.int (I 48 (Int32.toNatClampNeg ((x1 * (8 : Int32)) + (I 40 (Int32.toNatClampNeg x2)))))], (iq_sh l, I, J, X))) (fun _ => rfl) hc_ ?_
          cases h
          exact iq_G_ret (fun _ => rfl)
        · refine iq_G_neg (c := x2 < (I 38 2)) (σ1 := (24, [some (.ref 38), some (.int x1), some (.int x2)], [], (iq_sh l, I, J, X))) (fun _ => rfl) hc_ ?_
          refine iq_G_go (k := 1) (σ' := (25, [some (.ref 38), some (.int x1), some (.int x2)], [.int (-1 : Int32)], (iq_sh l, I, J, X))) (fun _ => rfl) ?_
          cases h
          exact iq_G_ret (fun _ => rfl)
set_option maxRecDepth 100000 in
theorem zR_isWordOfSaying_30_ok (l : Nat)  (x2 : Int32) (I : iq_I) (J : iq_J) (X : iq_X)  {q : Int32 × iq_I} (h : zR_isWordOfSaying_30 x2 I = some q)  : iq_Gg 3 94 (30, [some (.ref 61), none, some (.int x2)], [], (iq_sh l, I, J, X)) (.inl (some (.int q.1)), (iq_sh l, q.2, J, X)) := by
  unfold zR_isWordOfSaying_30 at h
  refine iq_G_go (k := 4) (σ' := (38, [some (.ref 61), none, some (.int x2)], [.int (I 38 2), .ref 61], (iq_sh l, I, J, X))) (fun _ => rfl) ?_
  obtain ⟨q1, hq1, h⟩ := iq_bnd h
  refine iq_G_call (σ' := (41, [some (.ref 61), none, some (.int x2)], [.int q1.1], (iq_sh l, q1.2, J, X))) (fun _ => rfl) (zR_isToldNumber_ok l (I 38 2) I J X hq1) rfl rfl ?_
  rcases iq_ite h with ⟨hc_, h⟩ | ⟨hc_, h⟩
  · refine iq_G_pos (c := ¬ q1.1 = 0) (σ1 := (46, [some (.ref 61), none, some (.int x2)], [], (iq_sh l, q1.2, J, X))) (fun _ => rfl) hc_ ?_
    refine iq_G_go (k := 5) (σ' := (55, [some (.ref 61), none, some (.int x2)], [.ref 62, .int x2, .ref 38], (iq_sh l, q1.2, J, X))) (fun _ => rfl) ?_
    obtain ⟨q2, hq2, h⟩ := iq_bnd h
    refine iq_G_call (σ' := (58, [some (.ref 61), none, some (.int x2)], [.int q2, .int x2, .ref 38], (iq_sh l, q1.2, J, X))) (fun _ => rfl) (zT_number_ok l  q1.2 J X hq2) rfl rfl ?_
    obtain ⟨q3, hq3, h⟩ := iq_bnd h
    refine iq_G_call (σ' := (61, [some (.ref 61), none, some (.int x2)], [.int q3], (iq_sh l, q1.2, J, X))) (fun _ => rfl) (zU_leadsTo_38_ok l x2 q2 q1.2 J X hq3) rfl rfl ?_
    refine iq_G_go (k := 1) (σ' := (62, [some (.ref 61), none, some (.int x2)], [.int (-1 : Int32), .int q3], (iq_sh l, q1.2, J, X))) (fun _ => rfl) ?_
    rcases iq_ite h with ⟨hc_, h⟩ | ⟨hc_, h⟩
    · refine iq_G_pos (c := ¬ q3 = (-1 : Int32)) (σ1 := (72, [some (.ref 61), none, some (.int x2)], [], (iq_sh l, q1.2, J, X))) (fun _ => rfl) hc_ ?_
      refine iq_G_go (k := 1) (σ' := (73, [some (.ref 61), none, some (.int x2)], [.int (1 : Int32)], (iq_sh l, q1.2, J, X))) (fun _ => rfl) ?_
      cases h
      exact iq_G_ret (fun _ => rfl)
    · refine iq_G_neg (c := ¬ q3 = (-1 : Int32)) (σ1 := (65, [some (.ref 61), none, some (.int x2)], [], (iq_sh l, q1.2, J, X))) (fun _ => rfl) hc_ ?_
      refine iq_G_go (k := 2) (σ' := (68, [some (.ref 61), none, some (.int x2)], [.int (6 : Int32), .ref 61], (iq_sh l, q1.2, J, X))) (fun _ => rfl) ?_
      obtain ⟨q4, hq4, h⟩ := iq_bnd h
      refine iq_G_call (σ' := (71, [some (.ref 61), none, some (.int x2)], [.int q4.1], (iq_sh l, q4.2, J, X))) (fun _ => rfl) (zR_refuse_ok l (6 : Int32) q1.2 J X hq4) rfl rfl ?_
      obtain ⟨hc_, h⟩ := iq_itn h
      have h := Option.some.inj h
      subst h
      exact iq_G_rif (c := q4.1 = 0 ∨ q4.1 = 1) (fun _ => rfl) hc_
  · refine iq_G_neg (c := ¬ q1.1 = 0) (σ1 := (44, [some (.ref 61), none, some (.int x2)], [], (iq_sh l, q1.2, J, X))) (fun _ => rfl) hc_ ?_
    refine iq_G_go (k := 1) (σ' := (45, [some (.ref 61), none, some (.int x2)], [.int (0 : Int32)], (iq_sh l, q1.2, J, X))) (fun _ => rfl) ?_
    cases h
    exact iq_G_ret (fun _ => rfl)
set_option maxRecDepth 100000 in
theorem zR_isWordOfSaying_ok (l : Nat)  (x1 : Int32) (x2 : Int32) (I : iq_I) (J : iq_J) (X : iq_X) {q : Int32 × iq_I} (h : zR_isWordOfSaying x1 x2 I = some q) : iq_Cc 4 94 [.ref 61, .int x1, .int x2] (iq_sh l, I, J, X) (.inl (some (.int q.1)), (iq_sh l, q.2, J, X)) := by
  refine iq_Cc_of (L := [some (.ref 61), some (.int x1), some (.int x2)]) rfl rfl ?_
  unfold zR_isWordOfSaying at h
  refine iq_G_go (k := 4) (σ' := (8, [some (.ref 61), some (.int x1), some (.int x2)], [.int (2 : Int32), .int (I 62 0)], (iq_sh l, I, J, X))) (fun _ => rfl) ?_
  rcases iq_ite h with ⟨hc_, h⟩ | ⟨hc_, h⟩
  · refine iq_G_pos (c := ¬ (I 62 0) = (2 : Int32)) (σ1 := (30, [some (.ref 61), some (.int x1), some (.int x2)], [], (iq_sh l, I, J, X))) (fun _ => rfl) hc_ ?_
    exact iq_G_fg (L := [some (.ref 61), none, some (.int x2)]) (And.intro rfl (And.intro rfl trivial)) (zR_isWordOfSaying_30_ok l x2 I J X  h )
  · refine iq_G_neg (c := ¬ (I 62 0) = (2 : Int32)) (σ1 := (11, [some (.ref 61), some (.int x1), some (.int x2)], [], (iq_sh l, I, J, X))) (fun _ => rfl) hc_ ?_
    refine iq_G_go (k := 3) (σ' := (16, [some (.ref 61), some (.int x1), some (.int x2)], [.int x1, .ref 50], (iq_sh l, I, J, X))) (fun _ => rfl) ?_
    obtain ⟨q5, hq5, h⟩ := iq_bnd h
    refine iq_G_call (σ' := (19, [some (.ref 61), some (.int x1), some (.int x2)], [.int q5], (iq_sh l, I, J, X))) (fun _ => rfl) (zG_lengthOf_50_ok l x1 I J X hq5) rfl rfl ?_
    refine iq_G_go (k := 1) (σ' := (21, [some (.ref 61), some (.int x1), some (.int x2)], [.int (40 : Int32), .int q5], (iq_sh l, I, J, X))) (fun _ => rfl) ?_
    rcases iq_ite h with ⟨hc_, h⟩ | ⟨hc_, h⟩
    · refine iq_G_pos (c := q5 < (40 : Int32)) (σ1 := (30, [some (.ref 61), some (.int x1), some (.int x2)], [], (iq_sh l, I, J, X))) (fun _ => rfl) hc_ ?_
      exact iq_G_fg (L := [some (.ref 61), none, some (.int x2)]) (And.intro rfl (And.intro rfl trivial)) (zR_isWordOfSaying_30_ok l x2 I J X  h )
    · refine iq_G_neg (c := q5 < (40 : Int32)) (σ1 := (24, [some (.ref 61), some (.int x1), some (.int x2)], [], (iq_sh l, I, J, X))) (fun _ => rfl) hc_ ?_
      refine iq_G_go (k := 2) (σ' := (26, [some (.ref 61), some (.int x1), some (.int x2)], [.int (2 : Int32), .ref 61], (iq_sh l, I, J, X))) (fun _ => rfl) ?_
      obtain ⟨q6, hq6, h⟩ := iq_bnd h
      refine iq_G_call (σ' := (29, [some (.ref 61), some (.int x1), some (.int x2)], [.int q6.1], (iq_sh l, q6.2, J, X))) (fun _ => rfl) (zR_refuse_ok l (2 : Int32) I J X hq6) rfl rfl ?_
      obtain ⟨hc_, h⟩ := iq_itn h
      have h := Option.some.inj h
      subst h
      exact iq_G_rif (c := q6.1 = 0 ∨ q6.1 = 1) (fun _ => rfl) hc_
set_option maxRecDepth 100000 in
theorem zR_readSaying_l73_bok (l : Nat)  (x1 : Int32) (J : iq_J) (X : iq_X) (x2 : Int32) (x3 : Int32) (I : iq_I) {q : (Int32 × Int32 × iq_I) ⊕ ((iq_I) ⊕ (Int32 × iq_I))} (h : zR_readSaying_l73_b x1 x2 x3 I = some q) (r : iq_R × iq_M) (hc : ∀ v, q = .inl v → iq_Gg 6 93 (73, [some (.ref 61), some (.int x1), some (.int v.1), some (.int v.2.1)], [], (iq_sh l, v.2.2, J, X)) r) (hx : ∀ w, q = .inr w → (∀ a, w = .inl a → iq_Gg 6 93 (147, [some (.ref 61), none, none, none], [], (iq_sh l, a, J, X)) r) ∧ (∀ b, w = .inr b → r = (.inl (some (.int b.1)), (iq_sh l, b.2, J, X)))) : iq_Gg 6 93 (73, [some (.ref 61), some (.int x1), some (.int x2), some (.int x3)], [], (iq_sh l, I, J, X)) r := by
  unfold zR_readSaying_l73_b at h
  refine iq_G_go (k := 2) (σ' := (76, [some (.ref 61), some (.int x1), some (.int x2), some (.int x3)], [.int (40 : Int32), .int x3], (iq_sh l, I, J, X))) (fun _ => rfl) ?_
  rcases iq_ite h with ⟨hc_, h⟩ | ⟨hc_, h⟩
  · refine iq_G_pos (c := (40 : Int32) < x3) (σ1 := (147, [some (.ref 61), some (.int x1), some (.int x2), some (.int x3)], [], (iq_sh l, I, J, X))) (fun _ => rfl) hc_ ?_
    cases h
    exact iq_G_fg (L := [some (.ref 61), none, none, none]) (And.intro rfl trivial) ((hx (.inl I) rfl).1 I rfl)
  · refine iq_G_neg (c := (40 : Int32) < x3) (σ1 := (79, [some (.ref 61), some (.int x1), some (.int x2), some (.int x3)], [], (iq_sh l, I, J, X))) (fun _ => rfl) hc_ ?_
    refine iq_G_go (k := 3) (σ' := (85, [some (.ref 61), some (.int x1), some (.int x2), some (.int x3)], [.int (59 : Int32), .ref 62], (iq_sh l, I, J, X))) (fun _ => rfl) ?_
    obtain ⟨q6, hq6, h⟩ := iq_bnd h
    refine iq_G_call (σ' := (88, [some (.ref 61), some (.int x1), some (.int x2), some (.int x3)], [.int q6], (iq_sh l, I, J, X))) (fun _ => rfl) (zT_isSign_ok l (59 : Int32) I J X hq6) rfl rfl ?_
    rcases iq_ite h with ⟨hc_, h⟩ | ⟨hc_, h⟩
    · refine iq_G_pos (c := ¬ q6 = 0) (σ1 := (147, [some (.ref 61), some (.int x1), some (.int x2), some (.int x3)], [], (iq_sh l, I, J, X))) (fun _ => rfl) hc_ ?_
      cases h
      exact iq_G_fg (L := [some (.ref 61), none, none, none]) (And.intro rfl trivial) ((hx (.inl I) rfl).1 I rfl)
    · refine iq_G_neg (c := ¬ q6 = 0) (σ1 := (91, [some (.ref 61), some (.int x1), some (.int x2), some (.int x3)], [], (iq_sh l, I, J, X))) (fun _ => rfl) hc_ ?_
      refine iq_G_go (k := 3) (σ' := (94, [some (.ref 61), some (.int x1), some (.int x2), some (.int x3)], [.int x2, .int x1, .ref 61], (iq_sh l, I, J, X))) (fun _ => rfl) ?_
      obtain ⟨q7, hq7, h⟩ := iq_bnd h
      refine iq_G_call (σ' := (97, [some (.ref 61), some (.int x1), some (.int x2), some (.int x3)], [.int q7.1], (iq_sh l, q7.2, J, X))) (fun _ => rfl) (zR_isWordOfSaying_ok l x1 x2 I J X hq7) rfl rfl ?_
      rcases iq_ite h with ⟨hc_, h⟩ | ⟨hc_, h⟩
      · refine iq_G_pos (c := ¬ q7.1 = 0) (σ1 := (102, [some (.ref 61), some (.int x1), some (.int x2), some (.int x3)], [], (iq_sh l, q7.2, J, X))) (fun _ => rfl) hc_ ?_
        refine iq_G_go (k := 5) (σ' := (111, [some (.ref 61), some (.int x1), some (.int x2), some (.int x3)], [.ref 62, .int x2, .ref 38], (iq_sh l, q7.2, J, X))) (fun _ => rfl) ?_
        obtain ⟨q8, hq8, h⟩ := iq_bnd h
        refine iq_G_call (σ' := (114, [some (.ref 61), some (.int x1), some (.int x2), some (.int x3)], [.int q8, .int x2, .ref 38], (iq_sh l, q7.2, J, X))) (fun _ => rfl) (zT_number_ok l  q7.2 J X hq8) rfl rfl ?_
        obtain ⟨q9, hq9, h⟩ := iq_bnd h
        refine iq_G_call (σ' := (117, [some (.ref 61), some (.int x1), some (.int x2), some (.int x3)], [.int q9], (iq_sh l, q7.2, J, X))) (fun _ => rfl) (zU_leadsTo_38_ok l x2 q8 q7.2 J X hq9) rfl rfl ?_
        refine iq_G_go (k := 7) (σ' := (128, [some (.ref 61), some (.int x1), some (.int q9), some (.int x3)], [.ref 62, .int x3, .int x1, .ref 50], (iq_sh l, q7.2, J, X))) (fun _ => rfl) ?_
        obtain ⟨q10, hq10, h⟩ := iq_bnd h
        refine iq_G_call (σ' := (131, [some (.ref 61), some (.int x1), some (.int q9), some (.int x3)], [.int q10, .int x3, .int x1, .ref 50], (iq_sh l, q7.2, J, X))) (fun _ => rfl) (zT_number_ok l  q7.2 J X hq10) rfl rfl ?_
        obtain ⟨q11, hq11, h⟩ := iq_bnd h
        refine iq_G_call (σ' := (134, [some (.ref 61), some (.int x1), some (.int q9), some (.int x3)], [], (iq_sh l, q11, J, X))) (fun _ => rfl) (zG_putIn_50_ok l x1 x3 q10 q7.2 J X hq11) rfl rfl ?_
        refine iq_G_go (k := 2) (σ' := (138, [some (.ref 61), some (.int x1), some (.int q9), some (.int x3)], [.ref 62], (iq_sh l, q11, J, X))) (fun _ => rfl) ?_
        obtain ⟨q12, hq12, h⟩ := iq_bnd h
        refine iq_G_call (σ' := (141, [some (.ref 61), some (.int x1), some (.int q9), some (.int x3)], [], (iq_sh l, q12, J, X))) (fun _ => rfl) (zT_next_ok l  q11 J X hq12) rfl rfl ?_
        refine iq_G_go (k := 2) (σ' := (73, [some (.ref 61), some (.int x1), some (.int q9), some (.int (x3 + (1 : Int32)))], [], (iq_sh l, q12, J, X))) (fun _ => rfl) ?_
        cases h
        exact iq_G_fg (L := [some (.ref 61), some (.int x1), some (.int q9), some (.int (x3 + (1 : Int32)))]) (And.intro rfl (And.intro rfl (And.intro rfl (And.intro rfl trivial)))) (hc (q9, (x3 + (1 : Int32)), q12) rfl)
      · refine iq_G_neg (c := ¬ q7.1 = 0) (σ1 := (100, [some (.ref 61), some (.int x1), some (.int x2), some (.int x3)], [], (iq_sh l, q7.2, J, X))) (fun _ => rfl) hc_ ?_
        refine iq_G_go (k := 1) (σ' := (101, [some (.ref 61), some (.int x1), some (.int x2), some (.int x3)], [.int (0 : Int32)], (iq_sh l, q7.2, J, X))) (fun _ => rfl) ?_
        cases h
        obtain rfl := (hx _ rfl).2 _ rfl
        exact iq_G_ret (fun _ => rfl)
set_option maxRecDepth 100000 in
theorem zR_readSaying_l73_ok (l : Nat)  (x1 : Int32) (J : iq_J) (X : iq_X) {n : Nat} {v : Int32 × Int32 × iq_I} {w : (iq_I) ⊕ (Int32 × iq_I)} (h : zR_readSaying_l73 x1 n v = some w) (r : iq_R × iq_M) (hq : (∀ a, w = .inl a → iq_Gg 6 93 (147, [some (.ref 61), none, none, none], [], (iq_sh l, a, J, X)) r) ∧ (∀ b, w = .inr b → r = (.inl (some (.int b.1)), (iq_sh l, b.2, J, X)))) : iq_Gg 6 93 (73, [some (.ref 61), some (.int x1), some (.int v.1), some (.int v.2.1)], [], (iq_sh l, v.2.2, J, X)) r :=
  iq_lp_ok (σ := fun v => (73, [some (.ref 61), some (.int x1), some (.int v.1), some (.int v.2.1)], [], (iq_sh l, v.2.2, J, X))) (Q := fun w r => (∀ a, w = .inl a → iq_Gg 6 93 (147, [some (.ref 61), none, none, none], [], (iq_sh l, a, J, X)) r) ∧ (∀ b, w = .inr b → r = (.inl (some (.int b.1)), (iq_sh l, b.2, J, X)))) (fun v q hv r h1 h2 => zR_readSaying_l73_bok l x1 J X v.1 v.2.1 v.2.2 hv r h1 h2) h r hq
set_option maxRecDepth 100000 in
theorem zR_readSaying_147_ok (l : Nat)   (I : iq_I) (J : iq_J) (X : iq_X)  {q : Int32 × iq_I} (h : zR_readSaying_147 I = some q)  : iq_Gg 6 93 (147, [some (.ref 61), none, none, none], [], (iq_sh l, I, J, X)) (.inl (some (.int q.1)), (iq_sh l, q.2, J, X)) := by
  unfold zR_readSaying_147 at h
  refine iq_G_go (k := 1) (σ' := (148, [some (.ref 61), none, none, none], [.ref 61], (iq_sh l, I, J, X))) (fun _ => rfl) ?_
  obtain ⟨q16, hq16, h⟩ := iq_bnd h
  refine iq_G_call (σ' := (151, [some (.ref 61), none, none, none], [.int q16.1], (iq_sh l, q16.2, J, X))) (fun _ => rfl) (zR_passLineEnd_ok l  I J X hq16) rfl rfl ?_
  obtain ⟨hc_, h⟩ := iq_itn h
  have h := Option.some.inj h
  subst h
  exact iq_G_rif (c := q16.1 = 0 ∨ q16.1 = 1) (fun _ => rfl) hc_
set_option maxRecDepth 100000 in
theorem zR_readSaying_ok (l : Nat)   (I : iq_I) (J : iq_J) (X : iq_X) {q : Int32 × iq_I} (h : zR_readSaying I = some q) : iq_Cc 7 93 [.ref 61] (iq_sh l, I, J, X) (.inl (some (.int q.1)), (iq_sh l, q.2, J, X)) := by
  refine iq_Cc_of (L := [some (.ref 61), none, none, none]) rfl rfl ?_
  unfold zR_readSaying at h
  refine iq_G_go (k := 4) (σ' := (8, [some (.ref 61), none, none, none], [.int (5 : Int32), .int (I 50 0)], (iq_sh l, I, J, X))) (fun _ => rfl) ?_
  rcases iq_ite h with ⟨hc_, h⟩ | ⟨hc_, h⟩
  · refine iq_G_pos (c := (I 50 0) < (5 : Int32)) (σ1 := (17, [some (.ref 61), none, none, none], [], (iq_sh l, I, J, X))) (fun _ => rfl) hc_ ?_
    refine iq_G_go (k := 2) (σ' := (21, [some (.ref 61), none, none, none], [.ref 62], (iq_sh l, I, J, X))) (fun _ => rfl) ?_
    obtain ⟨q1, hq1, h⟩ := iq_bnd h
    refine iq_G_call (σ' := (24, [some (.ref 61), none, none, none], [], (iq_sh l, q1, J, X))) (fun _ => rfl) (zT_next_ok l  I J X hq1) rfl rfl ?_
    refine iq_G_go (k := 4) (σ' := (32, [some (.ref 61), none, none, none], [.int (q1 38 0), .ref 61], (iq_sh l, q1, J, X))) (fun _ => rfl) ?_
    obtain ⟨q2, hq2, h⟩ := iq_bnd h
    refine iq_G_call (σ' := (35, [some (.ref 61), none, none, none], [.int q2.1], (iq_sh l, q2.2, J, X))) (fun _ => rfl) (zR_isToldNumber_ok l (q1 38 0) q1 J X hq2) rfl rfl ?_
    rcases iq_ite h with ⟨hc_, h⟩ | ⟨hc_, h⟩
    · refine iq_G_pos (c := ¬ q2.1 = 0) (σ1 := (40, [some (.ref 61), none, none, none], [], (iq_sh l, q2.2, J, X))) (fun _ => rfl) hc_ ?_
      refine iq_G_go (k := 6) (σ' := (52, [some (.ref 61), some (.int (q2.2 50 0)), none, none], [.ref 62], (iq_sh l, q2.2, J, X))) (fun _ => rfl) ?_
      obtain ⟨q3, hq3, h⟩ := iq_bnd h
      refine iq_G_call (σ' := (55, [some (.ref 61), some (.int (q2.2 50 0)), none, none], [.int q3], (iq_sh l, q2.2, J, X))) (fun _ => rfl) (zT_number_ok l  q2.2 J X hq3) rfl rfl ?_
      refine iq_G_go (k := 4) (σ' := (61, [some (.ref 61), some (.int (q2.2 50 0)), some (.int q3), none], [.int q3, .ref 50], (iq_sh l, q2.2, J, X))) (fun _ => rfl) ?_
      obtain ⟨q4, hq4, h⟩ := iq_bnd h
      refine iq_G_call (σ' := (64, [some (.ref 61), some (.int (q2.2 50 0)), some (.int q3), none], [], (iq_sh l, q4, J, X))) (fun _ => rfl) (zG_putSaying_ok l q3 q2.2 J X hq4) rfl rfl ?_
      refine iq_G_go (k := 2) (σ' := (68, [some (.ref 61), some (.int (q2.2 50 0)), some (.int q3), none], [.ref 62], (iq_sh l, q4, J, X))) (fun _ => rfl) ?_
      obtain ⟨q5, hq5, h⟩ := iq_bnd h
      refine iq_G_call (σ' := (71, [some (.ref 61), some (.int (q2.2 50 0)), some (.int q3), none], [], (iq_sh l, q5, J, X))) (fun _ => rfl) (zT_next_ok l  q4 J X hq5) rfl rfl ?_
      refine iq_G_go (k := 2) (σ' := (73, [some (.ref 61), some (.int (q2.2 50 0)), some (.int q3), some (.int (0 : Int32))], [], (iq_sh l, q5, J, X))) (fun _ => rfl) ?_
      obtain ⟨w13, hw13, h⟩ := iq_bnd h
      refine iq_G_fg (L := [some (.ref 61), some (.int (q2.2 50 0)), some (.int q3), some (.int (0 : Int32))]) (And.intro rfl (And.intro rfl (And.intro rfl (And.intro rfl trivial)))) ?_
      refine zR_readSaying_l73_ok l (q2.2 50 0) J X hw13 _ ⟨fun a14 ha => ?_, fun b15 hb => ?_⟩
      · subst ha
        replace h := ir_smL h
        show iq_Gg 6 93 (147, [some (.ref 61), none, none, none], [], (iq_sh l, a14, J, X)) _
        exact iq_G_fg (L := [some (.ref 61), none, none, none]) (And.intro rfl trivial) (zR_readSaying_147_ok l a14 J X  h )
      · subst hb
        replace h := ir_smR h
        cases h
        rfl
    · refine iq_G_neg (c := ¬ q2.1 = 0) (σ1 := (38, [some (.ref 61), none, none, none], [], (iq_sh l, q2.2, J, X))) (fun _ => rfl) hc_ ?_
      refine iq_G_go (k := 1) (σ' := (39, [some (.ref 61), none, none, none], [.int (0 : Int32)], (iq_sh l, q2.2, J, X))) (fun _ => rfl) ?_
      cases h
      exact iq_G_ret (fun _ => rfl)
  · refine iq_G_neg (c := (I 50 0) < (5 : Int32)) (σ1 := (11, [some (.ref 61), none, none, none], [], (iq_sh l, I, J, X))) (fun _ => rfl) hc_ ?_
    refine iq_G_go (k := 2) (σ' := (13, [some (.ref 61), none, none, none], [.int (2 : Int32), .ref 61], (iq_sh l, I, J, X))) (fun _ => rfl) ?_
    obtain ⟨q17, hq17, h⟩ := iq_bnd h
    refine iq_G_call (σ' := (16, [some (.ref 61), none, none, none], [.int q17.1], (iq_sh l, q17.2, J, X))) (fun _ => rfl) (zR_refuse_ok l (2 : Int32) I J X hq17) rfl rfl ?_
    obtain ⟨hc_, h⟩ := iq_itn h
    have h := Option.some.inj h
    subst h
    exact iq_G_rif (c := q17.1 = 0 ∨ q17.1 = 1) (fun _ => rfl) hc_
set_option maxRecDepth 100000 in
theorem zS_J0_coder_7d493_5008_ok (l : Nat)   (I : iq_I) (J : iq_J) (X : iq_X) {q : Int32} (h : zS_J0_coder_7d493_5008 I = some q) : iq_Cc 1 316 [.ref 5008] (iq_sh l, I, J, X) (.inl (some (.int q)), (iq_sh l, I, J, X)) := by
  refine iq_Cc_of (L := [some (.ref 5008)]) rfl rfl ?_
  unfold zS_J0_coder_7d493_5008 at h
  refine iq_G_go (k := 1) (σ' := (3, [some (.ref 5008)], [.int (1 : Int32)], (iq_sh l, I, J, X))) (fun _ => rfl) ?_
  refine iq_G_go (k := 1) (σ' := (6, [some (.ref 5008)], [], (iq_sh l, I, J, X))) (fun _ => rfl) ?_
  refine iq_G_go (k := 3) (σ' := (14, [some (.ref 5008)], [.int (0 : Int32)], (iq_sh l, I, J, X))) (fun _ => rfl) ?_
  cases h
  exact iq_G_ret (fun _ => rfl)
set_option maxRecDepth 100000 in
theorem zS_J0_length_8abf5_5008_ok (l : Nat)   (I : iq_I) (J : iq_J) (X : iq_X) {q : Int32} (h : zS_J0_length_8abf5_5008 I = some q) : iq_Cc 2 312 [.ref 5008] (iq_sh l, I, J, X) (.inl (some (.int q)), (iq_sh l, I, J, X)) := by
  refine iq_Cc_of (L := [some (.ref 5008)]) rfl rfl ?_
  unfold zS_J0_length_8abf5_5008 at h
  refine iq_G_go (k := 4) (σ' := (6, [some (.ref 5008)], [.ref 5008, .int (5 : Int32)], (iq_sh l, I, J, X))) (fun _ => rfl) ?_
  obtain ⟨q1, hq1, h⟩ := iq_bnd h
  refine iq_G_call (σ' := (9, [some (.ref 5008)], [.int q1, .int (5 : Int32)], (iq_sh l, I, J, X))) (fun _ => rfl) (zS_J0_coder_7d493_5008_ok l  I J X hq1) rfl rfl ?_
  refine iq_G_go (k := 1) (σ' := (10, [some (.ref 5008)], [.int ((5 : Int32) >>> (q1 &&& 31))], (iq_sh l, I, J, X))) (fun _ => rfl) ?_
  cases h
  exact iq_G_ret (fun _ => rfl)
set_option maxRecDepth 100000 in
theorem zS_J0_isLatin1_aae02_5008_ok (l : Nat)   (I : iq_I) (J : iq_J) (X : iq_X) {q : Int32} (h : zS_J0_isLatin1_aae02_5008 I = some q) : iq_Cc 1 317 [.ref 5008] (iq_sh l, I, J, X) (.inl (some (.int q)), (iq_sh l, I, J, X)) := by
  refine iq_Cc_of (L := [some (.ref 5008)]) rfl rfl ?_
  unfold zS_J0_isLatin1_aae02_5008 at h
  refine iq_G_go (k := 1) (σ' := (3, [some (.ref 5008)], [.int (1 : Int32)], (iq_sh l, I, J, X))) (fun _ => rfl) ?_
  refine iq_G_go (k := 1) (σ' := (6, [some (.ref 5008)], [], (iq_sh l, I, J, X))) (fun _ => rfl) ?_
  refine iq_G_go (k := 2) (σ' := (10, [some (.ref 5008)], [.int (0 : Int32)], (iq_sh l, I, J, X))) (fun _ => rfl) ?_
  refine iq_G_go (k := 1) (σ' := (13, [some (.ref 5008)], [], (iq_sh l, I, J, X))) (fun _ => rfl) ?_
  refine iq_G_go (k := 2) (σ' := (18, [some (.ref 5008)], [.int (1 : Int32)], (iq_sh l, I, J, X))) (fun _ => rfl) ?_
  cases h
  exact iq_G_ret (fun _ => rfl)
set_option maxRecDepth 100000 in
theorem zS_J1_charAt_3b067_6008_ok (l : Nat)  (x1 : Int32) (I : iq_I) (J : iq_J) (X : iq_X) {q : Int32} (h : zS_J1_charAt_3b067_6008 x1 I = some q) : iq_Cc 3 319 [.ref 6008, .int x1] (iq_sh l, I, J, X) (.inl (some (.int q)), (iq_sh l, I, J, X)) := by
  refine iq_Cc_of (L := [some (.ref 6008), some (.int x1)]) rfl rfl ?_
  unfold zS_J1_charAt_3b067_6008 at h
  refine iq_G_go (k := 3) (σ' := (3, [some (.ref 6008), some (.int x1)], [.int (5 : Int32), .int x1], (iq_sh l, I, J, X))) (fun _ => rfl) ?_
  obtain ⟨q1, hq1, h⟩ := iq_bnd h
  refine iq_G_call (σ' := (6, [some (.ref 6008), some (.int x1)], [], (iq_sh l, I, J, X))) (fun _ => rfl) (zS_J0_checkIndex_df160_ok l x1 (5 : Int32) I J X hq1) rfl rfl ?_
  refine iq_G_go (k := 2) (σ' := (8, [some (.ref 6008), some (.int x1)], [.int x1, .ref 6008], (iq_sh l, I, J, X))) (fun _ => rfl) ?_
  obtain ⟨hc_, h⟩ := iq_itn h
  refine iq_G_pos (c := iq_in x1 5) (σ1 := (9, [some (.ref 6008), some (.int x1)], [.int (ir_chr 8 (Int32.toNatClampNeg x1))], (iq_sh l, I, J, X))) (fun _ => rfl) hc_ ?_
  refine iq_G_go (k := 3) (σ' := (14, [some (.ref 6008), some (.int x1)], [.int ((Int32.toUInt32 ((ir_chr 8 (Int32.toNatClampNeg x1)) &&& (255 : Int32)) % 65536).toInt32)], (iq_sh l, I, J, X))) (fun _ => rfl) ?_
  obtain ⟨hc_, h⟩ := iq_itn h
  have h := Option.some.inj h
  subst h
  exact iq_G_rif (c := narrow .char (.int ((Int32.toUInt32 ((ir_chr 8 (Int32.toNatClampNeg x1)) &&& (255 : Int32)) % 65536).toInt32)) = .int ((Int32.toUInt32 ((ir_chr 8 (Int32.toNatClampNeg x1)) &&& (255 : Int32)) % 65536).toInt32)) (fun _ => rfl) hc_
set_option maxRecDepth 100000 in
theorem zS_J0_charAt_5068e_5008_ok (l : Nat)  (x1 : Int32) (I : iq_I) (J : iq_J) (X : iq_X) {q : Int32} (h : zS_J0_charAt_5068e_5008 x1 I = some q) : iq_Cc 4 313 [.ref 5008, .int x1] (iq_sh l, I, J, X) (.inl (some (.int q)), (iq_sh l, I, J, X)) := by
  refine iq_Cc_of (L := [some (.ref 5008), some (.int x1)]) rfl rfl ?_
  unfold zS_J0_charAt_5068e_5008 at h
  refine iq_G_go (k := 1) (σ' := (1, [some (.ref 5008), some (.int x1)], [.ref 5008], (iq_sh l, I, J, X))) (fun _ => rfl) ?_
  obtain ⟨q1, hq1, h⟩ := iq_bnd h
  refine iq_G_call (σ' := (4, [some (.ref 5008), some (.int x1)], [.int q1], (iq_sh l, I, J, X))) (fun _ => rfl) (zS_J0_isLatin1_aae02_5008_ok l  I J X hq1) rfl rfl ?_
  rcases iq_ite h with ⟨hc_, h⟩ | ⟨hc_, h⟩
  · refine iq_G_pos (c := q1 = 0) (σ1 := (16, [some (.ref 5008), some (.int x1)], [], (iq_sh l, I, J, X))) (fun _ => rfl) hc_ ?_
    cases h
  · refine iq_G_neg (c := q1 = 0) (σ1 := (7, [some (.ref 5008), some (.int x1)], [], (iq_sh l, I, J, X))) (fun _ => rfl) hc_ ?_
    refine iq_G_go (k := 3) (σ' := (12, [some (.ref 5008), some (.int x1)], [.int x1, .ref 6008], (iq_sh l, I, J, X))) (fun _ => rfl) ?_
    obtain ⟨q2, hq2, h⟩ := iq_bnd h
    refine iq_G_call (σ' := (15, [some (.ref 5008), some (.int x1)], [.int q2], (iq_sh l, I, J, X))) (fun _ => rfl) (zS_J1_charAt_3b067_6008_ok l x1 I J X hq2) rfl rfl ?_
    obtain ⟨hc_, h⟩ := iq_itn h
    have h := Option.some.inj h
    subst h
    exact iq_G_rif (c := narrow .char (.int q2) = .int q2) (fun _ => rfl) hc_
set_option maxRecDepth 100000 in
theorem zT_isWord_62_5008_l28_bok (l : Nat)   (I : iq_I) (J : iq_J) (X : iq_X) (x2 : Int32)  {q : (Int32) ⊕ ((Unit) ⊕ (Int32))} (h : zT_isWord_62_5008_l28_b I x2 = some q) (r : iq_R × iq_M) (hc : ∀ v, q = .inl v → iq_Gg 4 142 (28, [some (.ref 62), some (.ref 5008), some (.int v)], [], (iq_sh l, I, J, X)) r) (hx : ∀ w, q = .inr w → (∀ a, w = .inl a → iq_Gg 4 142 (63, [none, none, none], [], (iq_sh l, I, J, X)) r) ∧ (∀ b, w = .inr b → r = (.inl (some (.int b)), (iq_sh l, I, J, X)))) : iq_Gg 4 142 (28, [some (.ref 62), some (.ref 5008), some (.int x2)], [], (iq_sh l, I, J, X)) r := by
  unfold zT_isWord_62_5008_l28_b at h
  refine iq_G_go (k := 2) (σ' := (30, [some (.ref 62), some (.ref 5008), some (.int x2)], [.ref 5008, .int x2], (iq_sh l, I, J, X))) (fun _ => rfl) ?_
  obtain ⟨q2, hq2, h⟩ := iq_bnd h
  refine iq_G_call (σ' := (33, [some (.ref 62), some (.ref 5008), some (.int x2)], [.int q2, .int x2], (iq_sh l, I, J, X))) (fun _ => rfl) (zS_J0_length_8abf5_5008_ok l  I J X hq2) rfl rfl ?_
  rcases iq_ite h with ⟨hc_, h⟩ | ⟨hc_, h⟩
  · refine iq_G_pos (c := q2 ≤ x2) (σ1 := (63, [some (.ref 62), some (.ref 5008), some (.int x2)], [], (iq_sh l, I, J, X))) (fun _ => rfl) hc_ ?_
    cases h
    exact iq_G_fg (L := [none, none, none]) trivial ((hx (.inl ()) rfl).1 () rfl)
  · refine iq_G_neg (c := q2 ≤ x2) (σ1 := (36, [some (.ref 62), some (.ref 5008), some (.int x2)], [], (iq_sh l, I, J, X))) (fun _ => rfl) hc_ ?_
    refine iq_G_go (k := 6) (σ' := (46, [some (.ref 62), some (.ref 5008), some (.int x2)], [.int ((I 62 1) + x2), .ref 2], (iq_sh l, I, J, X))) (fun _ => rfl) ?_
    obtain ⟨hc_, h⟩ := iq_itn h
    refine iq_G_pos (c := iq_in ((I 62 1) + x2) 700) (σ1 := (47, [some (.ref 62), some (.ref 5008), some (.int x2)], [.int (I 2 (Int32.toNatClampNeg ((I 62 1) + x2)))], (iq_sh l, I, J, X))) (fun _ => rfl) hc_ ?_
    refine iq_G_go (k := 2) (σ' := (49, [some (.ref 62), some (.ref 5008), some (.int x2)], [.int x2, .ref 5008, .int (I 2 (Int32.toNatClampNeg ((I 62 1) + x2)))], (iq_sh l, I, J, X))) (fun _ => rfl) ?_
    obtain ⟨q3, hq3, h⟩ := iq_bnd h
    refine iq_G_call (σ' := (52, [some (.ref 62), some (.ref 5008), some (.int x2)], [.int q3, .int (I 2 (Int32.toNatClampNeg ((I 62 1) + x2)))], (iq_sh l, I, J, X))) (fun _ => rfl) (zS_J0_charAt_5068e_5008_ok l x2 I J X hq3) rfl rfl ?_
    rcases iq_ite h with ⟨hc_, h⟩ | ⟨hc_, h⟩
    · refine iq_G_pos (c := (I 2 (Int32.toNatClampNeg ((I 62 1) + x2))) = q3) (σ1 := (57, [some (.ref 62), some (.ref 5008), some (.int x2)], [], (iq_sh l, I, J, X))) (fun _ => rfl) hc_ ?_
      refine iq_G_go (k := 2) (σ' := (28, [some (.ref 62), some (.ref 5008), some (.int (x2 + (1 : Int32)))], [], (iq_sh l, I, J, X))) (fun _ => rfl) ?_
      cases h
      exact iq_G_fg (L := [some (.ref 62), some (.ref 5008), some (.int (x2 + (1 : Int32)))]) (And.intro rfl (And.intro rfl (And.intro rfl trivial))) (hc (x2 + (1 : Int32)) rfl)
    · refine iq_G_neg (c := (I 2 (Int32.toNatClampNeg ((I 62 1) + x2))) = q3) (σ1 := (55, [some (.ref 62), some (.ref 5008), some (.int x2)], [], (iq_sh l, I, J, X))) (fun _ => rfl) hc_ ?_
      refine iq_G_go (k := 1) (σ' := (56, [some (.ref 62), some (.ref 5008), some (.int x2)], [.int (0 : Int32)], (iq_sh l, I, J, X))) (fun _ => rfl) ?_
      cases h
      obtain rfl := (hx _ rfl).2 _ rfl
      exact iq_G_ret (fun _ => rfl)
set_option maxRecDepth 100000 in
theorem zT_isWord_62_5008_l28_ok (l : Nat)   (I : iq_I) (J : iq_J) (X : iq_X) {n : Nat} {v : Int32} {w : (Unit) ⊕ (Int32)} (h : zT_isWord_62_5008_l28 I n v = some w) (r : iq_R × iq_M) (hq : (∀ a, w = .inl a → iq_Gg 4 142 (63, [none, none, none], [], (iq_sh l, I, J, X)) r) ∧ (∀ b, w = .inr b → r = (.inl (some (.int b)), (iq_sh l, I, J, X)))) : iq_Gg 4 142 (28, [some (.ref 62), some (.ref 5008), some (.int v)], [], (iq_sh l, I, J, X)) r :=
  iq_lp_ok (σ := fun v => (28, [some (.ref 62), some (.ref 5008), some (.int v)], [], (iq_sh l, I, J, X))) (Q := fun w r => (∀ a, w = .inl a → iq_Gg 4 142 (63, [none, none, none], [], (iq_sh l, I, J, X)) r) ∧ (∀ b, w = .inr b → r = (.inl (some (.int b)), (iq_sh l, I, J, X)))) (fun v q hv r h1 h2 => zT_isWord_62_5008_l28_bok l I J X v hv r h1 h2) h r hq
set_option maxRecDepth 100000 in
theorem zT_isWord_62_5008_ok (l : Nat)   (I : iq_I) (J : iq_J) (X : iq_X) {q : Int32} (h : zT_isWord_62_5008 I = some q) : iq_Cc 5 142 [.ref 62, .ref 5008] (iq_sh l, I, J, X) (.inl (some (.int q)), (iq_sh l, I, J, X)) := by
  refine iq_Cc_of (L := [some (.ref 62), some (.ref 5008), none]) rfl rfl ?_
  unfold zT_isWord_62_5008 at h
  refine iq_G_go (k := 3) (σ' := (5, [some (.ref 62), some (.ref 5008), none], [.int (1 : Int32), .int (I 62 0)], (iq_sh l, I, J, X))) (fun _ => rfl) ?_
  rcases iq_ite h with ⟨hc_, h⟩ | ⟨hc_, h⟩
  · refine iq_G_pos (c := ¬ (I 62 0) = (1 : Int32)) (σ1 := (24, [some (.ref 62), some (.ref 5008), none], [], (iq_sh l, I, J, X))) (fun _ => rfl) hc_ ?_
    refine iq_G_go (k := 1) (σ' := (25, [some (.ref 62), some (.ref 5008), none], [.int (0 : Int32)], (iq_sh l, I, J, X))) (fun _ => rfl) ?_
    cases h
    exact iq_G_ret (fun _ => rfl)
  · refine iq_G_neg (c := ¬ (I 62 0) = (1 : Int32)) (σ1 := (8, [some (.ref 62), some (.ref 5008), none], [], (iq_sh l, I, J, X))) (fun _ => rfl) hc_ ?_
    refine iq_G_go (k := 6) (σ' := (18, [some (.ref 62), some (.ref 5008), none], [.ref 5008, .int ((I 62 4) - (I 62 1))], (iq_sh l, I, J, X))) (fun _ => rfl) ?_
    obtain ⟨q1, hq1, h⟩ := iq_bnd h
    refine iq_G_call (σ' := (21, [some (.ref 62), some (.ref 5008), none], [.int q1, .int ((I 62 4) - (I 62 1))], (iq_sh l, I, J, X))) (fun _ => rfl) (zS_J0_length_8abf5_5008_ok l  I J X hq1) rfl rfl ?_
    rcases iq_ite h with ⟨hc_, h⟩ | ⟨hc_, h⟩
    · have st_ : ∀ (z_0 : Int32) (r_ : iq_R × iq_M), z_0 = q1 → iq_Gg 4 142 (26, [some (.ref 62), some (.ref 5008), none], [], (iq_sh l, I, J, X)) r_ → iq_Gg 4 142 (21, [some (.ref 62), some (.ref 5008), none], [.int q1, .int z_0], (iq_sh l, I, J, X)) r_ := fun z_0 r_ hc_ hg_ => iq_G_pos (c := z_0 = q1) (σ1 := (26, [some (.ref 62), some (.ref 5008), none], [], (iq_sh l, I, J, X))) (fun _ => rfl) hc_ hg_
      refine st_ ((I 62 4) - (I 62 1)) _ hc_ ?_
      clear st_
      refine iq_G_go (k := 2) (σ' := (28, [some (.ref 62), some (.ref 5008), some (.int (0 : Int32))], [], (iq_sh l, I, J, X))) (fun _ => rfl) ?_
      obtain ⟨w4, hw4, h⟩ := iq_bnd h
      refine iq_G_fg (L := [some (.ref 62), some (.ref 5008), some (.int (0 : Int32))]) (And.intro rfl (And.intro rfl (And.intro rfl trivial))) ?_
      refine zT_isWord_62_5008_l28_ok l I J X hw4 _ ⟨fun a5 ha => ?_, fun b6 hb => ?_⟩
      · subst ha
        replace h := ir_smL h
        show iq_Gg 4 142 (63, [none, none, none], [], (iq_sh l, I, J, X)) _
        refine iq_G_go (k := 1) (σ' := (64, [none, none, none], [.int (1 : Int32)], (iq_sh l, I, J, X))) (fun _ => rfl) ?_
        cases h
        exact iq_G_ret (fun _ => rfl)
      · subst hb
        replace h := ir_smR h
        cases h
        rfl
    · have st_ : ∀ (z_0 : Int32) (r_ : iq_R × iq_M), ¬ (z_0 = q1) → iq_Gg 4 142 (24, [some (.ref 62), some (.ref 5008), none], [], (iq_sh l, I, J, X)) r_ → iq_Gg 4 142 (21, [some (.ref 62), some (.ref 5008), none], [.int q1, .int z_0], (iq_sh l, I, J, X)) r_ := fun z_0 r_ hc_ hg_ => iq_G_neg (c := z_0 = q1) (σ1 := (24, [some (.ref 62), some (.ref 5008), none], [], (iq_sh l, I, J, X))) (fun _ => rfl) hc_ hg_
      refine st_ ((I 62 4) - (I 62 1)) _ hc_ ?_
      clear st_
      refine iq_G_go (k := 1) (σ' := (25, [some (.ref 62), some (.ref 5008), none], [.int (0 : Int32)], (iq_sh l, I, J, X))) (fun _ => rfl) ?_
      cases h
      exact iq_G_ret (fun _ => rfl)
set_option maxRecDepth 100000 in
theorem zE_begin_ok (l : Nat)  (x1 : Int32) (I : iq_I) (J : iq_J) (X : iq_X) {q : iq_I} (h : zE_begin x1 I = some q) : iq_Cc 1 130 [.ref 42, .int x1] (iq_sh l, I, J, X) (.inl none, (iq_sh l, q, J, X)) := by
  refine iq_Cc_of (L := [some (.ref 42), some (.int x1)]) rfl rfl ?_
  unfold zE_begin at h
  refine iq_G_go (k := 1) (σ' := (1, [some (.ref 42), some (.int x1)], [.int x1], (iq_sh l, I, J, X))) (fun _ => rfl) ?_
  rcases iq_ite h with ⟨hc_, h⟩ | ⟨hc_, h⟩
  · refine iq_G_pos (c := x1 < 0) (σ1 := (23, [some (.ref 42), some (.int x1)], [], (iq_sh l, I, J, X))) (fun _ => rfl) hc_ ?_
    cases h
    exact iq_G_ret (fun _ => rfl)
  · refine iq_G_neg (c := x1 < 0) (σ1 := (4, [some (.ref 42), some (.int x1)], [], (iq_sh l, I, J, X))) (fun _ => rfl) hc_ ?_
    refine iq_G_go (k := 4) (σ' := (10, [some (.ref 42), some (.int x1)], [.int (5 : Int32), .int x1], (iq_sh l, I, J, X))) (fun _ => rfl) ?_
    rcases iq_ite h with ⟨hc_, h⟩ | ⟨hc_, h⟩
    · refine iq_G_pos (c := (5 : Int32) ≤ x1) (σ1 := (23, [some (.ref 42), some (.int x1)], [], (iq_sh l, I, J, X))) (fun _ => rfl) hc_ ?_
      cases h
      exact iq_G_ret (fun _ => rfl)
    · refine iq_G_neg (c := (5 : Int32) ≤ x1) (σ1 := (13, [some (.ref 42), some (.int x1)], [], (iq_sh l, I, J, X))) (fun _ => rfl) hc_ ?_
      refine iq_G_go (k := 5) (σ' := (22, [some (.ref 42), some (.int x1)], [.int (I 42 2), .int x1, .ref 44], (iq_sh l, I, J, X))) (fun _ => rfl) ?_
      obtain ⟨hc_, h⟩ := iq_itn h
      refine iq_G_pos (c := iq_in x1 5) (σ1 := (23, [some (.ref 42), some (.int x1)], [], (iq_sh l, (iq_upI I 44 (Int32.toNatClampNeg x1) (I 42 2)), J, X))) (fun _ => rfl) hc_ ?_
      obtain ⟨I1, eI1, h⟩ := ir_letG h
      rw [← eI1]
      clear eI1
      cases h
      exact iq_G_ret (fun _ => rfl)

