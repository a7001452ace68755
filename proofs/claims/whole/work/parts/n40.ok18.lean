/-! ===== the abstract machine does the same (printed by wip/whole/emitall.py, split.py) ===== -/
set_option maxRecDepth 100000 in
theorem zM_readsArc_71_ok (l : Nat)  (x2 : Int32) (I : iq_I) (J : iq_J) (X : iq_X)  {q : iq_I × iq_J} (h : zM_readsArc_71 x2 I J = some q)  : iq_Gg 3 235 (71, [some (.ref 76), none, some (.int x2), none], [], (iq_sh l, I, J, X)) (.inl none, (iq_sh l, q.1, q.2, X)) := by
  unfold zM_readsArc_71 at h
  refine iq_G_go (k := 1) (σ' := (72, [some (.ref 76), none, some (.int x2), none], [.ref 76], (iq_sh l, I, J, X))) (fun _ => rfl) ?_
  obtain ⟨q5, hq5, h⟩ := iq_bnd h
  refine iq_G_call (σ' := (75, [some (.ref 76), none, some (.int x2), none], [.int q5], (iq_sh l, I, J, X))) (fun _ => rfl) (zM_isGood_ok l  I J X hq5) rfl rfl ?_
  rcases iq_ite h with ⟨hc_, h⟩ | ⟨hc_, h⟩
  · refine iq_G_pos (c := ¬ q5 = 0) (σ1 := (79, [some (.ref 76), none, some (.int x2), none], [], (iq_sh l, I, J, X))) (fun _ => rfl) hc_ ?_
    refine iq_G_go (k := 1) (σ' := (80, [some (.ref 76), none, some (.int x2), none], [.ref 76], (iq_sh l, I, J, X))) (fun _ => rfl) ?_
    obtain ⟨q6, hq6, h⟩ := iq_bnd h
    refine iq_G_call (σ' := (83, [some (.ref 76), none, some (.int x2), none], [], (iq_sh l, q6.1, q6.2, X))) (fun _ => rfl) (zM_goes_ok l  I J X hq6) rfl rfl ?_
    refine iq_G_go (k := 3) (σ' := (88, [some (.ref 76), none, some (.int x2), none], [.int (q6.1 76 29), .ref 76], (iq_sh l, q6.1, q6.2, X))) (fun _ => rfl) ?_
    obtain ⟨q7, hq7, h⟩ := iq_bnd h
    refine iq_G_call (σ' := (91, [some (.ref 76), none, some (.int x2), none], [.int q7.1], (iq_sh l, q7.2.1, q7.2.2, X))) (fun _ => rfl) (zM_one_ok l (q6.1 76 29) q6.1 q6.2 X hq7) rfl rfl ?_
    refine iq_G_go (k := 2) (σ' := (93, [some (.ref 76), none, some (.int x2), some (.int q7.1)], [.ref 76], (iq_sh l, q7.2.1, q7.2.2, X))) (fun _ => rfl) ?_
    obtain ⟨q8, hq8, h⟩ := iq_bnd h
    refine iq_G_call (σ' := (96, [some (.ref 76), none, some (.int x2), some (.int q7.1)], [.int q8], (iq_sh l, q7.2.1, q7.2.2, X))) (fun _ => rfl) (zM_isGood_ok l  q7.2.1 q7.2.2 X hq8) rfl rfl ?_
    rcases iq_ite h with ⟨hc_, h⟩ | ⟨hc_, h⟩
    · refine iq_G_pos (c := ¬ q8 = 0) (σ1 := (100, [some (.ref 76), none, some (.int x2), some (.int q7.1)], [], (iq_sh l, q7.2.1, q7.2.2, X))) (fun _ => rfl) hc_ ?_
      refine iq_G_go (k := 4) (σ' := (106, [some (.ref 76), none, some (.int x2), some (.int q7.1)], [.int q7.1, .int x2, .ref 90], (iq_sh l, q7.2.1, q7.2.2, X))) (fun _ => rfl) ?_
      obtain ⟨hc_, h⟩ := iq_itn h
      refine iq_G_pos (c := iq_in x2 80) (σ1 := (107, [some (.ref 76), none, some (.int x2), some (.int q7.1)], [], (iq_sh l, (iq_upI q7.2.1 90 (Int32.toNatClampNeg x2) q7.1), q7.2.2, X))) (fun _ => rfl) hc_ ?_
      obtain ⟨I9, eI9, h⟩ := ir_letG h
      rw [← eI9]
      clear eI9
      refine iq_G_go (k := 5) (σ' := (114, [some (.ref 76), none, some (.int x2), some (.int q7.1)], [.int ((I9 76 31) + (1 : Int32)), .ref 76], (iq_sh l, I9, q7.2.2, X))) (fun _ => rfl) ?_
      refine iq_G_go (k := 1) (σ' := (117, [some (.ref 76), none, some (.int x2), some (.int q7.1)], [], (iq_sh l, (iq_upI I9 76 31 ((I9 76 31) + (1 : Int32))), q7.2.2, X))) (fun _ => rfl) ?_
      obtain ⟨I10, eI10, h⟩ := ir_letG h
      rw [← eI10]
      clear eI10
      cases h
      exact iq_G_ret (fun _ => rfl)
    · refine iq_G_neg (c := ¬ q8 = 0) (σ1 := (99, [some (.ref 76), none, some (.int x2), some (.int q7.1)], [], (iq_sh l, q7.2.1, q7.2.2, X))) (fun _ => rfl) hc_ ?_
      cases h
      exact iq_G_ret (fun _ => rfl)
  · refine iq_G_neg (c := ¬ q5 = 0) (σ1 := (78, [some (.ref 76), none, some (.int x2), none], [], (iq_sh l, I, J, X))) (fun _ => rfl) hc_ ?_
    cases h
    exact iq_G_ret (fun _ => rfl)
set_option maxRecDepth 100000 in
theorem zM_readsArc_14_ok (l : Nat)   (I : iq_I) (J : iq_J) (X : iq_X)  {q : iq_I × iq_J} (h : zM_readsArc_14 I J = some q)  : iq_Gg 3 235 (14, [some (.ref 76), none, none, none], [], (iq_sh l, I, J, X)) (.inl none, (iq_sh l, q.1, q.2, X)) := by
  unfold zM_readsArc_14 at h
  refine iq_G_go (k := 1) (σ' := (15, [some (.ref 76), none, none, none], [.ref 76], (iq_sh l, I, J, X))) (fun _ => rfl) ?_
  obtain ⟨q1, hq1, h⟩ := iq_bnd h
  refine iq_G_call (σ' := (18, [some (.ref 76), none, none, none], [.int q1], (iq_sh l, I, J, X))) (fun _ => rfl) (zM_isGood_ok l  I J X hq1) rfl rfl ?_
  rcases iq_ite h with ⟨hc_, h⟩ | ⟨hc_, h⟩
  · refine iq_G_pos (c := ¬ q1 = 0) (σ1 := (22, [some (.ref 76), none, none, none], [], (iq_sh l, I, J, X))) (fun _ => rfl) hc_ ?_
    refine iq_G_go (k := 1) (σ' := (23, [some (.ref 76), none, none, none], [.ref 76], (iq_sh l, I, J, X))) (fun _ => rfl) ?_
    obtain ⟨q2, hq2, h⟩ := iq_bnd h
    refine iq_G_call (σ' := (26, [some (.ref 76), none, none, none], [], (iq_sh l, q2.1, q2.2, X))) (fun _ => rfl) (zM_goes_ok l  I J X hq2) rfl rfl ?_
    refine iq_G_go (k := 3) (σ' := (31, [some (.ref 76), none, none, none], [.int (q2.1 76 29), .ref 76], (iq_sh l, q2.1, q2.2, X))) (fun _ => rfl) ?_
    obtain ⟨q3, hq3, h⟩ := iq_bnd h
    refine iq_G_call (σ' := (34, [some (.ref 76), none, none, none], [.int q3.1], (iq_sh l, q3.2.1, q3.2.2, X))) (fun _ => rfl) (zM_one_ok l (q2.1 76 29) q2.1 q2.2 X hq3) rfl rfl ?_
    refine iq_G_go (k := 4) (σ' := (39, [some (.ref 76), some (.int q3.1), none, none], [.int (7 : Int32), .int (0 : Int32), .ref 76], (iq_sh l, q3.2.1, q3.2.2, X))) (fun _ => rfl) ?_
    obtain ⟨q4, hq4, h⟩ := iq_bnd h
    refine iq_G_call (σ' := (42, [some (.ref 76), some (.int q3.1), none, none], [.int q4.1], (iq_sh l, q4.2, q3.2.2, X))) (fun _ => rfl) (zM_numberHere_ok l (0 : Int32) (7 : Int32) q3.2.1 q3.2.2 X hq4) rfl rfl ?_
    rcases iq_ite h with ⟨hc_, h⟩ | ⟨hc_, h⟩
    · refine iq_G_pos (c := ¬ q4.1 = 0) (σ1 := (46, [some (.ref 76), some (.int q3.1), none, none], [], (iq_sh l, q4.2, q3.2.2, X))) (fun _ => rfl) hc_ ?_
      refine iq_G_go (k := 10) (σ' := (61, [some (.ref 76), some (.int q3.1), some (.int (((8 : Int32) * q3.1) + (q4.2 76 26))), none], [.int (((8 : Int32) * q3.1) + (q4.2 76 26)), .ref 90], (iq_sh l, q4.2, q3.2.2, X))) (fun _ => rfl) ?_
      obtain ⟨hc_, h⟩ := iq_itn h
      refine iq_G_pos (c := iq_in (((8 : Int32) * q3.1) + (q4.2 76 26)) 80) (σ1 := (62, [some (.ref 76), some (.int q3.1), some (.int (((8 : Int32) * q3.1) + (q4.2 76 26))), none], [.int (q4.2 90 (Int32.toNatClampNeg (((8 : Int32) * q3.1) + (q4.2 76 26))))], (iq_sh l, q4.2, q3.2.2, X))) (fun _ => rfl) hc_ ?_
      refine iq_G_go (k := 1) (σ' := (63, [some (.ref 76), some (.int q3.1), some (.int (((8 : Int32) * q3.1) + (q4.2 76 26))), none], [.int (-1 : Int32), .int (q4.2 90 (Int32.toNatClampNeg (((8 : Int32) * q3.1) + (q4.2 76 26))))], (iq_sh l, q4.2, q3.2.2, X))) (fun _ => rfl) ?_
      rcases iq_ite h with ⟨hc_, h⟩ | ⟨hc_, h⟩
      · refine iq_G_pos (c := (q4.2 90 (Int32.toNatClampNeg (((8 : Int32) * q3.1) + (q4.2 76 26)))) = (-1 : Int32)) (σ1 := (71, [some (.ref 76), some (.int q3.1), some (.int (((8 : Int32) * q3.1) + (q4.2 76 26))), none], [], (iq_sh l, q4.2, q3.2.2, X))) (fun _ => rfl) hc_ ?_
        exact iq_G_fg (L := [some (.ref 76), none, some (.int (((8 : Int32) * q3.1) + (q4.2 76 26))), none]) (And.intro rfl (And.intro rfl trivial)) (zM_readsArc_71_ok l (((8 : Int32) * q3.1) + (q4.2 76 26)) q4.2 q3.2.2 X  h )
      · refine iq_G_neg (c := (q4.2 90 (Int32.toNatClampNeg (((8 : Int32) * q3.1) + (q4.2 76 26)))) = (-1 : Int32)) (σ1 := (66, [some (.ref 76), some (.int q3.1), some (.int (((8 : Int32) * q3.1) + (q4.2 76 26))), none], [], (iq_sh l, q4.2, q3.2.2, X))) (fun _ => rfl) hc_ ?_
        refine iq_G_go (k := 2) (σ' := (68, [some (.ref 76), some (.int q3.1), some (.int (((8 : Int32) * q3.1) + (q4.2 76 26))), none], [.int (4 : Int32), .ref 76], (iq_sh l, q4.2, q3.2.2, X))) (fun _ => rfl) ?_
        obtain ⟨q11, hq11, h⟩ := iq_bnd h
        refine iq_G_call (σ' := (71, [some (.ref 76), some (.int q3.1), some (.int (((8 : Int32) * q3.1) + (q4.2 76 26))), none], [], (iq_sh l, q11, q3.2.2, X))) (fun _ => rfl) (zM_wrong_ok l (4 : Int32) q4.2 q3.2.2 X hq11) rfl rfl ?_
        exact iq_G_fg (L := [some (.ref 76), none, some (.int (((8 : Int32) * q3.1) + (q4.2 76 26))), none]) (And.intro rfl (And.intro rfl trivial)) (zM_readsArc_71_ok l (((8 : Int32) * q3.1) + (q4.2 76 26)) q11 q3.2.2 X  h )
    · refine iq_G_neg (c := ¬ q4.1 = 0) (σ1 := (45, [some (.ref 76), some (.int q3.1), none, none], [], (iq_sh l, q4.2, q3.2.2, X))) (fun _ => rfl) hc_ ?_
      cases h
      exact iq_G_ret (fun _ => rfl)
  · refine iq_G_neg (c := ¬ q1 = 0) (σ1 := (21, [some (.ref 76), none, none, none], [], (iq_sh l, I, J, X))) (fun _ => rfl) hc_ ?_
    cases h
    exact iq_G_ret (fun _ => rfl)
set_option maxRecDepth 100000 in
theorem zM_readsArc_ok (l : Nat)   (I : iq_I) (J : iq_J) (X : iq_X) {q : iq_I × iq_J} (h : zM_readsArc I J = some q) : iq_Cc 4 235 [.ref 76] (iq_sh l, I, J, X) (.inl none, (iq_sh l, q.1, q.2, X)) := by
  refine iq_Cc_of (L := [some (.ref 76), none, none, none]) rfl rfl ?_
  unfold zM_readsArc at h
  refine iq_G_go (k := 3) (σ' := (6, [some (.ref 76), none, none, none], [.int (24 : Int32), .int (I 76 31)], (iq_sh l, I, J, X))) (fun _ => rfl) ?_
  rcases iq_ite h with ⟨hc_, h⟩ | ⟨hc_, h⟩
  · refine iq_G_pos (c := ¬ (I 76 31) = (24 : Int32)) (σ1 := (14, [some (.ref 76), none, none, none], [], (iq_sh l, I, J, X))) (fun _ => rfl) hc_ ?_
    exact iq_G_fg (L := [some (.ref 76), none, none, none]) (And.intro rfl trivial) (zM_readsArc_14_ok l I J X  h )
  · refine iq_G_neg (c := ¬ (I 76 31) = (24 : Int32)) (σ1 := (9, [some (.ref 76), none, none, none], [], (iq_sh l, I, J, X))) (fun _ => rfl) hc_ ?_
    refine iq_G_go (k := 2) (σ' := (11, [some (.ref 76), none, none, none], [.int (2 : Int32), .ref 76], (iq_sh l, I, J, X))) (fun _ => rfl) ?_
    obtain ⟨q12, hq12, h⟩ := iq_bnd h
    refine iq_G_call (σ' := (14, [some (.ref 76), none, none, none], [], (iq_sh l, q12, J, X))) (fun _ => rfl) (zM_wrong_ok l (2 : Int32) I J X hq12) rfl rfl ?_
    exact iq_G_fg (L := [some (.ref 76), none, none, none]) (And.intro rfl trivial) (zM_readsArc_14_ok l q12 J X  h )
set_option maxRecDepth 100000 in
theorem zM_readsSaying_131_ok (l : Nat)  (x1 : Int32) (x2 : Int32) (x3 : Int32) (I : iq_I) (J : iq_J) (X : iq_X)  {q : (Int32 × iq_I × iq_J) ⊕ ((iq_I × iq_J) ⊕ (iq_I × iq_J))} (h : zM_readsSaying_131 x1 x2 x3 I J = some q) (r : iq_R × iq_M) (hc : ∀ v, q = .inl v → iq_Gg 3 236 (58, [some (.ref 76), some (.int x1), some (.int v.1), none], [], (iq_sh l, v.2.1, v.2.2, X)) r) (hx : ∀ w, q = .inr w → (∀ a, w = .inl a → iq_Gg 3 236 (193, [some (.ref 76), none, none, none], [], (iq_sh l, a.1, a.2, X)) r) ∧ (∀ b, w = .inr b → r = (.inl none, (iq_sh l, b.1, b.2, X)))) : iq_Gg 3 236 (131, [some (.ref 76), some (.int x1), some (.int x2), some (.int x3)], [], (iq_sh l, I, J, X)) r := by
  unfold zM_readsSaying_131 at h
  refine iq_G_go (k := 1) (σ' := (132, [some (.ref 76), some (.int x1), some (.int x2), some (.int x3)], [.ref 76], (iq_sh l, I, J, X))) (fun _ => rfl) ?_
  obtain ⟨q9, hq9, h⟩ := iq_bnd h
  refine iq_G_call (σ' := (135, [some (.ref 76), some (.int x1), some (.int x2), some (.int x3)], [.int q9], (iq_sh l, I, J, X))) (fun _ => rfl) (zM_isGood_ok l  I J X hq9) rfl rfl ?_
  rcases iq_ite h with ⟨hc_, h⟩ | ⟨hc_, h⟩
  · refine iq_G_pos (c := ¬ q9 = 0) (σ1 := (139, [some (.ref 76), some (.int x1), some (.int x2), some (.int x3)], [], (iq_sh l, I, J, X))) (fun _ => rfl) hc_ ?_
    refine iq_G_go (k := 10) (σ' := (155, [some (.ref 76), some (.int x1), some (.int x2), some (.int x3)], [.int x1, .ref 94, .int ((6 : Int32) + ((40 : Int32) * x1)), .ref 94], (iq_sh l, I, J, X))) (fun _ => rfl) ?_
    obtain ⟨hc_, h⟩ := iq_itn h
    refine iq_G_pos (c := iq_in x1 206) (σ1 := (156, [some (.ref 76), some (.int x1), some (.int x2), some (.int x3)], [.int (I 94 (Int32.toNatClampNeg x1)), .int ((6 : Int32) + ((40 : Int32) * x1)), .ref 94], (iq_sh l, I, J, X))) (fun _ => rfl) hc_ ?_
    refine iq_G_go (k := 2) (σ' := (158, [some (.ref 76), some (.int x1), some (.int x2), some (.int x3)], [.int x3, .int (((6 : Int32) + ((40 : Int32) * x1)) + (I 94 (Int32.toNatClampNeg x1))), .ref 94], (iq_sh l, I, J, X))) (fun _ => rfl) ?_
    obtain ⟨hc_, h⟩ := iq_itn h
    refine iq_G_pos (c := iq_in (((6 : Int32) + ((40 : Int32) * x1)) + (I 94 (Int32.toNatClampNeg x1))) 206) (σ1 := (159, [some (.ref 76), some (.int x1), some (.int x2), some (.int x3)], [], (iq_sh l, (iq_upI I 94 (Int32.toNatClampNeg (((6 : Int32) + ((40 : Int32) * x1)) + (I 94 (Int32.toNatClampNeg x1)))) x3), J, X))) (fun _ => rfl) hc_ ?_
    obtain ⟨I10, eI10, h⟩ := ir_letG h
    rw [← eI10]
    clear eI10
    refine iq_G_go (k := 4) (σ' := (165, [some (.ref 76), some (.int x1), some (.int x2), some (.int x3)], [.int x1, .ref 94, .int x1, .ref 94], (iq_sh l, I10, J, X))) (fun _ => rfl) ?_
    obtain ⟨hc_, h⟩ := iq_itn h
    refine iq_G_pos (c := iq_in x1 206) (σ1 := (166, [some (.ref 76), some (.int x1), some (.int x2), some (.int x3)], [.int (I10 94 (Int32.toNatClampNeg x1)), .int x1, .ref 94], (iq_sh l, I10, J, X))) (fun _ => rfl) hc_ ?_
    refine iq_G_go (k := 2) (σ' := (168, [some (.ref 76), some (.int x1), some (.int x2), some (.int x3)], [.int ((I10 94 (Int32.toNatClampNeg x1)) + (1 : Int32)), .int x1, .ref 94], (iq_sh l, I10, J, X))) (fun _ => rfl) ?_
    obtain ⟨hc_, h⟩ := iq_itn h
    refine iq_G_pos (c := iq_in x1 206) (σ1 := (169, [some (.ref 76), some (.int x1), some (.int x2), some (.int x3)], [], (iq_sh l, (iq_upI I10 94 (Int32.toNatClampNeg x1) ((I10 94 (Int32.toNatClampNeg x1)) + (1 : Int32))), J, X))) (fun _ => rfl) hc_ ?_
    obtain ⟨I11, eI11, h⟩ := ir_letG h
    rw [← eI11]
    clear eI11
    refine iq_G_go (k := 8) (σ' := (182, [some (.ref 76), some (.int x1), some (.int x2), some (.int x3)], [.int x3, .ref 89, .int ((8 : Int32) * x2), .ref 90], (iq_sh l, I11, J, X))) (fun _ => rfl) ?_
    obtain ⟨hc_, h⟩ := iq_itn h
    refine iq_G_pos (c := iq_in x3 14) (σ1 := (183, [some (.ref 76), some (.int x1), some (.int x2), some (.int x3)], [.int (I11 89 (Int32.toNatClampNeg x3)), .int ((8 : Int32) * x2), .ref 90], (iq_sh l, I11, J, X))) (fun _ => rfl) hc_ ?_
    refine iq_G_go (k := 1) (σ' := (184, [some (.ref 76), some (.int x1), some (.int x2), some (.int x3)], [.int (((8 : Int32) * x2) + (I11 89 (Int32.toNatClampNeg x3))), .ref 90], (iq_sh l, I11, J, X))) (fun _ => rfl) ?_
    obtain ⟨hc_, h⟩ := iq_itn h
    refine iq_G_pos (c := iq_in (((8 : Int32) * x2) + (I11 89 (Int32.toNatClampNeg x3))) 80) (σ1 := (185, [some (.ref 76), some (.int x1), some (.int x2), some (.int x3)], [.int (I11 90 (Int32.toNatClampNeg (((8 : Int32) * x2) + (I11 89 (Int32.toNatClampNeg x3)))))], (iq_sh l, I11, J, X))) (fun _ => rfl) hc_ ?_
    refine iq_G_go (k := 2) (σ' := (187, [some (.ref 76), some (.int x1), some (.int (I11 90 (Int32.toNatClampNeg (((8 : Int32) * x2) + (I11 89 (Int32.toNatClampNeg x3)))))), some (.int x3)], [.ref 76], (iq_sh l, I11, J, X))) (fun _ => rfl) ?_
    obtain ⟨q12, hq12, h⟩ := iq_bnd h
    refine iq_G_call (σ' := (190, [some (.ref 76), some (.int x1), some (.int (I11 90 (Int32.toNatClampNeg (((8 : Int32) * x2) + (I11 89 (Int32.toNatClampNeg x3)))))), some (.int x3)], [], (iq_sh l, q12.1, q12.2, X))) (fun _ => rfl) (zM_goes_ok l  I11 J X hq12) rfl rfl ?_
    refine iq_G_go (k := 1) (σ' := (58, [some (.ref 76), some (.int x1), some (.int (I11 90 (Int32.toNatClampNeg (((8 : Int32) * x2) + (I11 89 (Int32.toNatClampNeg x3)))))), some (.int x3)], [], (iq_sh l, q12.1, q12.2, X))) (fun _ => rfl) ?_
    cases h
    exact iq_G_fg (L := [some (.ref 76), some (.int x1), some (.int (I11 90 (Int32.toNatClampNeg (((8 : Int32) * x2) + (I11 89 (Int32.toNatClampNeg x3)))))), none]) (And.intro rfl (And.intro rfl (And.intro rfl trivial))) (hc ((I11 90 (Int32.toNatClampNeg (((8 : Int32) * x2) + (I11 89 (Int32.toNatClampNeg x3))))), q12.1, q12.2) rfl)
  · refine iq_G_neg (c := ¬ q9 = 0) (σ1 := (138, [some (.ref 76), some (.int x1), some (.int x2), some (.int x3)], [], (iq_sh l, I, J, X))) (fun _ => rfl) hc_ ?_
    cases h
    obtain rfl := (hx _ rfl).2 _ rfl
    exact iq_G_ret (fun _ => rfl)
set_option maxRecDepth 100000 in
theorem zM_readsSaying_89_ok (l : Nat)  (x1 : Int32) (x2 : Int32) (I : iq_I) (J : iq_J) (X : iq_X)  {q : (Int32 × iq_I × iq_J) ⊕ ((iq_I × iq_J) ⊕ (iq_I × iq_J))} (h : zM_readsSaying_89 x1 x2 I J = some q) (r : iq_R × iq_M) (hc : ∀ v, q = .inl v → iq_Gg 3 236 (58, [some (.ref 76), some (.int x1), some (.int v.1), none], [], (iq_sh l, v.2.1, v.2.2, X)) r) (hx : ∀ w, q = .inr w → (∀ a, w = .inl a → iq_Gg 3 236 (193, [some (.ref 76), none, none, none], [], (iq_sh l, a.1, a.2, X)) r) ∧ (∀ b, w = .inr b → r = (.inl none, (iq_sh l, b.1, b.2, X)))) : iq_Gg 3 236 (89, [some (.ref 76), some (.int x1), some (.int x2), none], [], (iq_sh l, I, J, X)) r := by
  unfold zM_readsSaying_89 at h
  refine iq_G_go (k := 3) (σ' := (94, [some (.ref 76), some (.int x1), some (.int x2), none], [.int (I 76 30), .ref 76], (iq_sh l, I, J, X))) (fun _ => rfl) ?_
  obtain ⟨q7, hq7, h⟩ := iq_bnd h
  refine iq_G_call (σ' := (97, [some (.ref 76), some (.int x1), some (.int x2), none], [.int q7.1], (iq_sh l, q7.2, J, X))) (fun _ => rfl) (zM_oneHere_ok l (I 76 30) I J X hq7) rfl rfl ?_
  refine iq_G_go (k := 2) (σ' := (99, [some (.ref 76), some (.int x1), some (.int x2), some (.int q7.1)], [.ref 76], (iq_sh l, q7.2, J, X))) (fun _ => rfl) ?_
  obtain ⟨q8, hq8, h⟩ := iq_bnd h
  refine iq_G_call (σ' := (102, [some (.ref 76), some (.int x1), some (.int x2), some (.int q7.1)], [.int q8], (iq_sh l, q7.2, J, X))) (fun _ => rfl) (zM_isGood_ok l  q7.2 J X hq8) rfl rfl ?_
  rcases iq_ite h with ⟨hc_, h⟩ | ⟨hc_, h⟩
  · refine iq_G_pos (c := q8 = 0) (σ1 := (131, [some (.ref 76), some (.int x1), some (.int x2), some (.int q7.1)], [], (iq_sh l, q7.2, J, X))) (fun _ => rfl) hc_ ?_
    exact iq_G_fg (L := [some (.ref 76), some (.int x1), some (.int x2), some (.int q7.1)]) (And.intro rfl (And.intro rfl (And.intro rfl (And.intro rfl trivial)))) (zM_readsSaying_131_ok l x1 x2 q7.1 q7.2 J X  h r hc hx)
  · refine iq_G_neg (c := q8 = 0) (σ1 := (105, [some (.ref 76), some (.int x1), some (.int x2), some (.int q7.1)], [], (iq_sh l, q7.2, J, X))) (fun _ => rfl) hc_ ?_
    refine iq_G_go (k := 8) (σ' := (118, [some (.ref 76), some (.int x1), some (.int x2), some (.int q7.1)], [.int q7.1, .ref 89, .int ((8 : Int32) * x2), .ref 90], (iq_sh l, q7.2, J, X))) (fun _ => rfl) ?_
    obtain ⟨hc_, h⟩ := iq_itn h
    refine iq_G_pos (c := iq_in q7.1 14) (σ1 := (119, [some (.ref 76), some (.int x1), some (.int x2), some (.int q7.1)], [.int (q7.2 89 (Int32.toNatClampNeg q7.1)), .int ((8 : Int32) * x2), .ref 90], (iq_sh l, q7.2, J, X))) (fun _ => rfl) hc_ ?_
    refine iq_G_go (k := 1) (σ' := (120, [some (.ref 76), some (.int x1), some (.int x2), some (.int q7.1)], [.int (((8 : Int32) * x2) + (q7.2 89 (Int32.toNatClampNeg q7.1))), .ref 90], (iq_sh l, q7.2, J, X))) (fun _ => rfl) ?_
    obtain ⟨hc_, h⟩ := iq_itn h
    refine iq_G_pos (c := iq_in (((8 : Int32) * x2) + (q7.2 89 (Int32.toNatClampNeg q7.1))) 80) (σ1 := (121, [some (.ref 76), some (.int x1), some (.int x2), some (.int q7.1)], [.int (q7.2 90 (Int32.toNatClampNeg (((8 : Int32) * x2) + (q7.2 89 (Int32.toNatClampNeg q7.1)))))], (iq_sh l, q7.2, J, X))) (fun _ => rfl) hc_ ?_
    refine iq_G_go (k := 1) (σ' := (122, [some (.ref 76), some (.int x1), some (.int x2), some (.int q7.1)], [.int (-1 : Int32), .int (q7.2 90 (Int32.toNatClampNeg (((8 : Int32) * x2) + (q7.2 89 (Int32.toNatClampNeg q7.1)))))], (iq_sh l, q7.2, J, X))) (fun _ => rfl) ?_
    rcases iq_ite h with ⟨hc_, h⟩ | ⟨hc_, h⟩
    · refine iq_G_pos (c := ¬ (q7.2 90 (Int32.toNatClampNeg (((8 : Int32) * x2) + (q7.2 89 (Int32.toNatClampNeg q7.1))))) = (-1 : Int32)) (σ1 := (131, [some (.ref 76), some (.int x1), some (.int x2), some (.int q7.1)], [], (iq_sh l, q7.2, J, X))) (fun _ => rfl) hc_ ?_
      exact iq_G_fg (L := [some (.ref 76), some (.int x1), some (.int x2), some (.int q7.1)]) (And.intro rfl (And.intro rfl (And.intro rfl (And.intro rfl trivial)))) (zM_readsSaying_131_ok l x1 x2 q7.1 q7.2 J X  h r hc hx)
    · refine iq_G_neg (c := ¬ (q7.2 90 (Int32.toNatClampNeg (((8 : Int32) * x2) + (q7.2 89 (Int32.toNatClampNeg q7.1))))) = (-1 : Int32)) (σ1 := (125, [some (.ref 76), some (.int x1), some (.int x2), some (.int q7.1)], [], (iq_sh l, q7.2, J, X))) (fun _ => rfl) hc_ ?_
      refine iq_G_go (k := 2) (σ' := (128, [some (.ref 76), some (.int x1), some (.int x2), some (.int q7.1)], [.int (6 : Int32), .ref 76], (iq_sh l, q7.2, J, X))) (fun _ => rfl) ?_
      obtain ⟨q13, hq13, h⟩ := iq_bnd h
      refine iq_G_call (σ' := (131, [some (.ref 76), some (.int x1), some (.int x2), some (.int q7.1)], [], (iq_sh l, q13, J, X))) (fun _ => rfl) (zM_wrong_ok l (6 : Int32) q7.2 J X hq13) rfl rfl ?_
      exact iq_G_fg (L := [some (.ref 76), some (.int x1), some (.int x2), some (.int q7.1)]) (And.intro rfl (And.intro rfl (And.intro rfl (And.intro rfl trivial)))) (zM_readsSaying_131_ok l x1 x2 q7.1 q13 J X  h r hc hx)
set_option maxRecDepth 100000 in
theorem zM_readsSaying_l58_bok (l : Nat)  (x1 : Int32) (X : iq_X) (x2 : Int32) (I : iq_I) (J : iq_J) {q : (Int32 × iq_I × iq_J) ⊕ ((iq_I × iq_J) ⊕ (iq_I × iq_J))} (h : zM_readsSaying_l58_b x1 x2 I J = some q) (r : iq_R × iq_M) (hc : ∀ v, q = .inl v → iq_Gg 3 236 (58, [some (.ref 76), some (.int x1), some (.int v.1), none], [], (iq_sh l, v.2.1, v.2.2, X)) r) (hx : ∀ w, q = .inr w → (∀ a, w = .inl a → iq_Gg 3 236 (193, [some (.ref 76), none, none, none], [], (iq_sh l, a.1, a.2, X)) r) ∧ (∀ b, w = .inr b → r = (.inl none, (iq_sh l, b.1, b.2, X)))) : iq_Gg 3 236 (58, [some (.ref 76), some (.int x1), some (.int x2), none], [], (iq_sh l, I, J, X)) r := by
  unfold zM_readsSaying_l58_b at h
  refine iq_G_go (k := 1) (σ' := (59, [some (.ref 76), some (.int x1), some (.int x2), none], [.ref 76], (iq_sh l, I, J, X))) (fun _ => rfl) ?_
  obtain ⟨q6, hq6, h⟩ := iq_bnd h
  refine iq_G_call (σ' := (62, [some (.ref 76), some (.int x1), some (.int x2), none], [.int q6], (iq_sh l, I, J, X))) (fun _ => rfl) (zM_isGood_ok l  I J X hq6) rfl rfl ?_
  rcases iq_ite h with ⟨hc_, h⟩ | ⟨hc_, h⟩
  · refine iq_G_pos (c := q6 = 0) (σ1 := (193, [some (.ref 76), some (.int x1), some (.int x2), none], [], (iq_sh l, I, J, X))) (fun _ => rfl) hc_ ?_
    cases h
    exact iq_G_fg (L := [some (.ref 76), none, none, none]) (And.intro rfl trivial) ((hx (.inl (I, J)) rfl).1 (I, J) rfl)
  · refine iq_G_neg (c := q6 = 0) (σ1 := (65, [some (.ref 76), some (.int x1), some (.int x2), none], [], (iq_sh l, I, J, X))) (fun _ => rfl) hc_ ?_
    refine iq_G_go (k := 3) (σ' := (70, [some (.ref 76), some (.int x1), some (.int x2), none], [.int (2 : Int32), .int (I 76 23)], (iq_sh l, I, J, X))) (fun _ => rfl) ?_
    rcases iq_ite h with ⟨hc_, h⟩ | ⟨hc_, h⟩
    · refine iq_G_pos (c := ¬ (I 76 23) = (2 : Int32)) (σ1 := (193, [some (.ref 76), some (.int x1), some (.int x2), none], [], (iq_sh l, I, J, X))) (fun _ => rfl) hc_ ?_
      cases h
      exact iq_G_fg (L := [some (.ref 76), none, none, none]) (And.intro rfl trivial) ((hx (.inl (I, J)) rfl).1 (I, J) rfl)
    · refine iq_G_neg (c := ¬ (I 76 23) = (2 : Int32)) (σ1 := (73, [some (.ref 76), some (.int x1), some (.int x2), none], [], (iq_sh l, I, J, X))) (fun _ => rfl) hc_ ?_
      refine iq_G_go (k := 3) (σ' := (78, [some (.ref 76), some (.int x1), some (.int x2), none], [.int x1, .ref 94], (iq_sh l, I, J, X))) (fun _ => rfl) ?_
      obtain ⟨hc_, h⟩ := iq_itn h
      refine iq_G_pos (c := iq_in x1 206) (σ1 := (79, [some (.ref 76), some (.int x1), some (.int x2), none], [.int (I 94 (Int32.toNatClampNeg x1))], (iq_sh l, I, J, X))) (fun _ => rfl) hc_ ?_
      refine iq_G_go (k := 1) (σ' := (81, [some (.ref 76), some (.int x1), some (.int x2), none], [.int (40 : Int32), .int (I 94 (Int32.toNatClampNeg x1))], (iq_sh l, I, J, X))) (fun _ => rfl) ?_
      rcases iq_ite h with ⟨hc_, h⟩ | ⟨hc_, h⟩
      · refine iq_G_pos (c := ¬ (I 94 (Int32.toNatClampNeg x1)) = (40 : Int32)) (σ1 := (89, [some (.ref 76), some (.int x1), some (.int x2), none], [], (iq_sh l, I, J, X))) (fun _ => rfl) hc_ ?_
        exact iq_G_fg (L := [some (.ref 76), some (.int x1), some (.int x2), none]) (And.intro rfl (And.intro rfl (And.intro rfl trivial))) (zM_readsSaying_89_ok l x1 x2 I J X  h r hc hx)
      · refine iq_G_neg (c := ¬ (I 94 (Int32.toNatClampNeg x1)) = (40 : Int32)) (σ1 := (84, [some (.ref 76), some (.int x1), some (.int x2), none], [], (iq_sh l, I, J, X))) (fun _ => rfl) hc_ ?_
        refine iq_G_go (k := 2) (σ' := (86, [some (.ref 76), some (.int x1), some (.int x2), none], [.int (2 : Int32), .ref 76], (iq_sh l, I, J, X))) (fun _ => rfl) ?_
        obtain ⟨q14, hq14, h⟩ := iq_bnd h
        refine iq_G_call (σ' := (89, [some (.ref 76), some (.int x1), some (.int x2), none], [], (iq_sh l, q14, J, X))) (fun _ => rfl) (zM_wrong_ok l (2 : Int32) I J X hq14) rfl rfl ?_
        exact iq_G_fg (L := [some (.ref 76), some (.int x1), some (.int x2), none]) (And.intro rfl (And.intro rfl (And.intro rfl trivial))) (zM_readsSaying_89_ok l x1 x2 q14 J X  h r hc hx)
set_option maxRecDepth 100000 in
theorem zM_readsSaying_l58_ok (l : Nat)  (x1 : Int32) (X : iq_X) {n : Nat} {v : Int32 × iq_I × iq_J} {w : (iq_I × iq_J) ⊕ (iq_I × iq_J)} (h : zM_readsSaying_l58 x1 n v = some w) (r : iq_R × iq_M) (hq : (∀ a, w = .inl a → iq_Gg 3 236 (193, [some (.ref 76), none, none, none], [], (iq_sh l, a.1, a.2, X)) r) ∧ (∀ b, w = .inr b → r = (.inl none, (iq_sh l, b.1, b.2, X)))) : iq_Gg 3 236 (58, [some (.ref 76), some (.int x1), some (.int v.1), none], [], (iq_sh l, v.2.1, v.2.2, X)) r :=
  iq_lp_ok (σ := fun v => (58, [some (.ref 76), some (.int x1), some (.int v.1), none], [], (iq_sh l, v.2.1, v.2.2, X))) (Q := fun w r => (∀ a, w = .inl a → iq_Gg 3 236 (193, [some (.ref 76), none, none, none], [], (iq_sh l, a.1, a.2, X)) r) ∧ (∀ b, w = .inr b → r = (.inl none, (iq_sh l, b.1, b.2, X)))) (fun v q hv r h1 h2 => zM_readsSaying_l58_bok l x1 X v.1 v.2.1 v.2.2 hv r h1 h2) h r hq
set_option maxRecDepth 100000 in
theorem zM_readsSaying_193_ok (l : Nat)   (I : iq_I) (J : iq_J) (X : iq_X)  {q : iq_I × iq_J} (h : zM_readsSaying_193 I J = some q)  : iq_Gg 3 236 (193, [some (.ref 76), none, none, none], [], (iq_sh l, I, J, X)) (.inl none, (iq_sh l, q.1, q.2, X)) := by
  unfold zM_readsSaying_193 at h
  refine iq_G_go (k := 1) (σ' := (194, [some (.ref 76), none, none, none], [.ref 76], (iq_sh l, I, J, X))) (fun _ => rfl) ?_
  obtain ⟨q18, hq18, h⟩ := iq_bnd h
  refine iq_G_call (σ' := (197, [some (.ref 76), none, none, none], [.int q18], (iq_sh l, I, J, X))) (fun _ => rfl) (zM_isGood_ok l  I J X hq18) rfl rfl ?_
  rcases iq_ite h with ⟨hc_, h⟩ | ⟨hc_, h⟩
  · refine iq_G_pos (c := q18 = 0) (σ1 := (210, [some (.ref 76), none, none, none], [], (iq_sh l, I, J, X))) (fun _ => rfl) hc_ ?_
    cases h
    exact iq_G_ret (fun _ => rfl)
  · refine iq_G_neg (c := q18 = 0) (σ1 := (200, [some (.ref 76), none, none, none], [], (iq_sh l, I, J, X))) (fun _ => rfl) hc_ ?_
    refine iq_G_go (k := 5) (σ' := (207, [some (.ref 76), none, none, none], [.int ((I 76 33) + (1 : Int32)), .ref 76], (iq_sh l, I, J, X))) (fun _ => rfl) ?_
    refine iq_G_go (k := 1) (σ' := (210, [some (.ref 76), none, none, none], [], (iq_sh l, (iq_upI I 76 33 ((I 76 33) + (1 : Int32))), J, X))) (fun _ => rfl) ?_
    obtain ⟨I19, eI19, h⟩ := ir_letG h
    rw [← eI19]
    clear eI19
    cases h
    exact iq_G_ret (fun _ => rfl)
set_option maxRecDepth 100000 in
theorem zM_readsSaying_13_ok (l : Nat)   (I : iq_I) (J : iq_J) (X : iq_X)  {q : iq_I × iq_J} (h : zM_readsSaying_13 I J = some q)  : iq_Gg 3 236 (13, [some (.ref 76), none, none, none], [], (iq_sh l, I, J, X)) (.inl none, (iq_sh l, q.1, q.2, X)) := by
  unfold zM_readsSaying_13 at h
  refine iq_G_go (k := 1) (σ' := (14, [some (.ref 76), none, none, none], [.ref 76], (iq_sh l, I, J, X))) (fun _ => rfl) ?_
  obtain ⟨q1, hq1, h⟩ := iq_bnd h
  refine iq_G_call (σ' := (17, [some (.ref 76), none, none, none], [.int q1], (iq_sh l, I, J, X))) (fun _ => rfl) (zM_isGood_ok l  I J X hq1) rfl rfl ?_
  rcases iq_ite h with ⟨hc_, h⟩ | ⟨hc_, h⟩
  · refine iq_G_pos (c := ¬ q1 = 0) (σ1 := (21, [some (.ref 76), none, none, none], [], (iq_sh l, I, J, X))) (fun _ => rfl) hc_ ?_
    refine iq_G_go (k := 1) (σ' := (22, [some (.ref 76), none, none, none], [.ref 76], (iq_sh l, I, J, X))) (fun _ => rfl) ?_
    obtain ⟨q2, hq2, h⟩ := iq_bnd h
    refine iq_G_call (σ' := (25, [some (.ref 76), none, none, none], [], (iq_sh l, q2.1, q2.2, X))) (fun _ => rfl) (zM_goes_ok l  I J X hq2) rfl rfl ?_
    refine iq_G_go (k := 9) (σ' := (40, [some (.ref 76), some (.int (q2.1 76 33)), none, none], [.int (q2.1 76 29), .ref 76, .int (q2.1 76 33), .ref 93], (iq_sh l, q2.1, q2.2, X))) (fun _ => rfl) ?_
    obtain ⟨q3, hq3, h⟩ := iq_bnd h
    refine iq_G_call (σ' := (43, [some (.ref 76), some (.int (q2.1 76 33)), none, none], [.int q3.1, .int (q2.1 76 33), .ref 93], (iq_sh l, q3.2.1, q3.2.2, X))) (fun _ => rfl) (zM_one_ok l (q2.1 76 29) q2.1 q2.2 X hq3) rfl rfl ?_
    obtain ⟨hc_, h⟩ := iq_itn h
    refine iq_G_pos (c := iq_in (q2.1 76 33) 5) (σ1 := (44, [some (.ref 76), some (.int (q2.1 76 33)), none, none], [], (iq_sh l, (iq_upI q3.2.1 93 (Int32.toNatClampNeg (q2.1 76 33)) q3.1), q3.2.2, X))) (fun _ => rfl) hc_ ?_
    obtain ⟨I4, eI4, h⟩ := ir_letG h
    rw [← eI4]
    clear eI4
    refine iq_G_go (k := 4) (σ' := (50, [some (.ref 76), some (.int (q2.1 76 33)), none, none], [.int (0 : Int32), .int (q2.1 76 33), .ref 94], (iq_sh l, I4, q3.2.2, X))) (fun _ => rfl) ?_
    obtain ⟨hc_, h⟩ := iq_itn h
    refine iq_G_pos (c := iq_in (q2.1 76 33) 206) (σ1 := (51, [some (.ref 76), some (.int (q2.1 76 33)), none, none], [], (iq_sh l, (iq_upI I4 94 (Int32.toNatClampNeg (q2.1 76 33)) (0 : Int32)), q3.2.2, X))) (fun _ => rfl) hc_ ?_
    obtain ⟨I5, eI5, h⟩ := ir_letG h
    rw [← eI5]
    clear eI5
    refine iq_G_go (k := 3) (σ' := (56, [some (.ref 76), some (.int (q2.1 76 33)), none, none], [.int (q2.1 76 33), .ref 93], (iq_sh l, I5, q3.2.2, X))) (fun _ => rfl) ?_
    obtain ⟨hc_, h⟩ := iq_itn h
    refine iq_G_pos (c := iq_in (q2.1 76 33) 5) (σ1 := (57, [some (.ref 76), some (.int (q2.1 76 33)), none, none], [.int (I5 93 (Int32.toNatClampNeg (q2.1 76 33)))], (iq_sh l, I5, q3.2.2, X))) (fun _ => rfl) hc_ ?_
    refine iq_G_go (k := 1) (σ' := (58, [some (.ref 76), some (.int (q2.1 76 33)), some (.int (I5 93 (Int32.toNatClampNeg (q2.1 76 33)))), none], [], (iq_sh l, I5, q3.2.2, X))) (fun _ => rfl) ?_
    obtain ⟨w15, hw15, h⟩ := iq_bnd h
    refine iq_G_fg (L := [some (.ref 76), some (.int (q2.1 76 33)), some (.int (I5 93 (Int32.toNatClampNeg (q2.1 76 33)))), none]) (And.intro rfl (And.intro rfl (And.intro rfl trivial))) ?_
    refine zM_readsSaying_l58_ok l (q2.1 76 33) X hw15 _ ⟨fun a16 ha => ?_, fun b17 hb => ?_⟩
    · subst ha
      replace h := ir_smL h
      show iq_Gg 3 236 (193, [some (.ref 76), none, none, none], [], (iq_sh l, a16.1, a16.2, X)) _
      exact iq_G_fg (L := [some (.ref 76), none, none, none]) (And.intro rfl trivial) (zM_readsSaying_193_ok l a16.1 a16.2 X  h )
    · subst hb
      replace h := ir_smR h
      cases h
      rfl
  · refine iq_G_neg (c := ¬ q1 = 0) (σ1 := (20, [some (.ref 76), none, none, none], [], (iq_sh l, I, J, X))) (fun _ => rfl) hc_ ?_
    cases h
    exact iq_G_ret (fun _ => rfl)
set_option maxRecDepth 100000 in
theorem zM_readsSaying_ok (l : Nat)   (I : iq_I) (J : iq_J) (X : iq_X) {q : iq_I × iq_J} (h : zM_readsSaying I J = some q) : iq_Cc 4 236 [.ref 76] (iq_sh l, I, J, X) (.inl none, (iq_sh l, q.1, q.2, X)) := by
  refine iq_Cc_of (L := [some (.ref 76), none, none, none]) rfl rfl ?_
  unfold zM_readsSaying at h
  refine iq_G_go (k := 3) (σ' := (5, [some (.ref 76), none, none, none], [.int (5 : Int32), .int (I 76 33)], (iq_sh l, I, J, X))) (fun _ => rfl) ?_
  rcases iq_ite h with ⟨hc_, h⟩ | ⟨hc_, h⟩
  · refine iq_G_pos (c := ¬ (I 76 33) = (5 : Int32)) (σ1 := (13, [some (.ref 76), none, none, none], [], (iq_sh l, I, J, X))) (fun _ => rfl) hc_ ?_
    exact iq_G_fg (L := [some (.ref 76), none, none, none]) (And.intro rfl trivial) (zM_readsSaying_13_ok l I J X  h )
  · refine iq_G_neg (c := ¬ (I 76 33) = (5 : Int32)) (σ1 := (8, [some (.ref 76), none, none, none], [], (iq_sh l, I, J, X))) (fun _ => rfl) hc_ ?_
    refine iq_G_go (k := 2) (σ' := (10, [some (.ref 76), none, none, none], [.int (2 : Int32), .ref 76], (iq_sh l, I, J, X))) (fun _ => rfl) ?_
    obtain ⟨q20, hq20, h⟩ := iq_bnd h
    refine iq_G_call (σ' := (13, [some (.ref 76), none, none, none], [], (iq_sh l, q20, J, X))) (fun _ => rfl) (zM_wrong_ok l (2 : Int32) I J X hq20) rfl rfl ?_
    exact iq_G_fg (L := [some (.ref 76), none, none, none]) (And.intro rfl trivial) (zM_readsSaying_13_ok l q20 J X  h )
set_option maxRecDepth 100000 in
theorem zM_deeper_61_ok (l : Nat)  (s1 : Int32) (I : iq_I) (J : iq_J) (X : iq_X)  {q : iq_I} (h : zM_deeper_61 s1 I = some q)  : iq_Gg 1 228 (61, [none], [.int s1, .ref 76], (iq_sh l, I, J, X)) (.inl none, (iq_sh l, q, J, X)) := by
  unfold zM_deeper_61 at h
  obtain ⟨q1, hq1, h⟩ := iq_bnd h
  refine iq_G_call (σ' := (64, [none], [], (iq_sh l, q1, J, X))) (fun _ => rfl) (zM_wrong_ok l s1 I J X hq1) rfl rfl ?_
  cases h
  exact iq_G_ret (fun _ => rfl)
set_option maxRecDepth 100000 in
theorem zM_deeper_56_ok (l : Nat)   (I : iq_I) (J : iq_J) (X : iq_X)  {q : iq_I} (h : zM_deeper_56 I = some q)  : iq_Gg 1 228 (56, [none], [.ref 76], (iq_sh l, I, J, X)) (.inl none, (iq_sh l, q, J, X)) := by
  unfold zM_deeper_56 at h
  refine iq_G_go (k := 2) (σ' := (61, [none], [.int (2 : Int32), .ref 76], (iq_sh l, I, J, X))) (fun _ => rfl) ?_
  exact iq_G_fg (L := [none]) trivial (zM_deeper_61_ok l (2 : Int32) I J X  h )
set_option maxRecDepth 100000 in
theorem zM_deeper_ok (l : Nat)   (I : iq_I) (J : iq_J) (X : iq_X) {q : iq_I} (h : zM_deeper I = some q) : iq_Cc 2 228 [.ref 76] (iq_sh l, I, J, X) (.inl none, (iq_sh l, q, J, X)) := by
  refine iq_Cc_of (L := [some (.ref 76)]) rfl rfl ?_
  unfold zM_deeper at h
  refine iq_G_go (k := 3) (σ' := (6, [some (.ref 76)], [.int (6 : Int32), .int (I 76 39)], (iq_sh l, I, J, X))) (fun _ => rfl) ?_
  rcases iq_ite h with ⟨hc_, h⟩ | ⟨hc_, h⟩
  · refine iq_G_pos (c := (6 : Int32) ≤ (I 76 39)) (σ1 := (30, [some (.ref 76)], [], (iq_sh l, I, J, X))) (fun _ => rfl) hc_ ?_
    refine iq_G_go (k := 4) (σ' := (36, [some (.ref 76)], [.int (2 : Int32), .int (I 76 23), .ref 76], (iq_sh l, I, J, X))) (fun _ => rfl) ?_
    rcases iq_ite h with ⟨hc_, h⟩ | ⟨hc_, h⟩
    · refine iq_G_pos (c := (I 76 23) = (2 : Int32)) (σ1 := (56, [some (.ref 76)], [.ref 76], (iq_sh l, I, J, X))) (fun _ => rfl) hc_ ?_
      exact iq_G_fg (L := [none]) trivial (zM_deeper_56_ok l I J X  h )
    · refine iq_G_neg (c := (I 76 23) = (2 : Int32)) (σ1 := (39, [some (.ref 76)], [.ref 76], (iq_sh l, I, J, X))) (fun _ => rfl) hc_ ?_
      refine iq_G_go (k := 3) (σ' := (44, [some (.ref 76)], [.int (1 : Int32), .int (I 76 23), .ref 76], (iq_sh l, I, J, X))) (fun _ => rfl) ?_
      rcases iq_ite h with ⟨hc_, h⟩ | ⟨hc_, h⟩
      · refine iq_G_pos (c := (I 76 23) = (1 : Int32)) (σ1 := (56, [some (.ref 76)], [.ref 76], (iq_sh l, I, J, X))) (fun _ => rfl) hc_ ?_
        exact iq_G_fg (L := [none]) trivial (zM_deeper_56_ok l I J X  h )
      · refine iq_G_neg (c := (I 76 23) = (1 : Int32)) (σ1 := (47, [some (.ref 76)], [.ref 76], (iq_sh l, I, J, X))) (fun _ => rfl) hc_ ?_
        refine iq_G_go (k := 2) (σ' := (50, [some (.ref 76)], [.int (40 : Int32), .ref 76, .ref 76], (iq_sh l, I, J, X))) (fun _ => rfl) ?_
        obtain ⟨q2, hq2, h⟩ := iq_bnd h
        refine iq_G_call (σ' := (53, [some (.ref 76)], [.int q2, .ref 76], (iq_sh l, I, J, X))) (fun _ => rfl) (zM_isSign_ok l (40 : Int32) I J X hq2) rfl rfl ?_
        rcases iq_ite h with ⟨hc_, h⟩ | ⟨hc_, h⟩
        · refine iq_G_pos (c := q2 = 0) (σ1 := (60, [some (.ref 76)], [.ref 76], (iq_sh l, I, J, X))) (fun _ => rfl) hc_ ?_
          refine iq_G_go (k := 1) (σ' := (61, [some (.ref 76)], [.int (1 : Int32), .ref 76], (iq_sh l, I, J, X))) (fun _ => rfl) ?_
          exact iq_G_fg (L := [none]) trivial (zM_deeper_61_ok l (1 : Int32) I J X  h )
        · refine iq_G_neg (c := q2 = 0) (σ1 := (56, [some (.ref 76)], [.ref 76], (iq_sh l, I, J, X))) (fun _ => rfl) hc_ ?_
          exact iq_G_fg (L := [none]) trivial (zM_deeper_56_ok l I J X  h )
  · refine iq_G_neg (c := (6 : Int32) ≤ (I 76 39)) (σ1 := (9, [some (.ref 76)], [], (iq_sh l, I, J, X))) (fun _ => rfl) hc_ ?_
    refine iq_G_go (k := 5) (σ' := (16, [some (.ref 76)], [.int ((I 76 39) + (1 : Int32)), .ref 76], (iq_sh l, I, J, X))) (fun _ => rfl) ?_
    refine iq_G_go (k := 1) (σ' := (19, [some (.ref 76)], [], (iq_sh l, (iq_upI I 76 39 ((I 76 39) + (1 : Int32))), J, X))) (fun _ => rfl) ?_
    obtain ⟨I3, eI3, h⟩ := ir_letG h
    rw [← eI3]
    clear eI3
    refine iq_G_go (k := 5) (σ' := (28, [some (.ref 76)], [.int (0 : Int32), .int (I3 76 39), .ref 97], (iq_sh l, I3, J, X))) (fun _ => rfl) ?_
    obtain ⟨hc_, h⟩ := iq_itn h
    refine iq_G_pos (c := iq_in (I3 76 39) 9 ∧ ((0 : Int32) = 0 ∨ (0 : Int32) = 1)) (σ1 := (29, [some (.ref 76)], [], (iq_sh l, (iq_upI I3 97 (Int32.toNatClampNeg (I3 76 39)) (0 : Int32)), J, X))) (fun _ => rfl) hc_ ?_
    obtain ⟨I4, eI4, h⟩ := ir_letG h
    rw [← eI4]
    clear eI4
    cases h
    exact iq_G_ret (fun _ => rfl)
set_option maxRecDepth 100000 in
theorem zM_waitsFor_ok (l : Nat)  (x1 : Int32) (I : iq_I) (J : iq_J) (X : iq_X) {q : iq_I} (h : zM_waitsFor x1 I = some q) : iq_Cc 1 226 [.ref 76, .int x1] (iq_sh l, I, J, X) (.inl none, (iq_sh l, q, J, X)) := by
  refine iq_Cc_of (L := [some (.ref 76), some (.int x1)]) rfl rfl ?_
  unfold zM_waitsFor at h
  refine iq_G_go (k := 5) (σ' := (9, [some (.ref 76), some (.int x1)], [.int x1, .int (I 76 38), .ref 96], (iq_sh l, I, J, X))) (fun _ => rfl) ?_
  obtain ⟨hc_, h⟩ := iq_itn h
  refine iq_G_pos (c := iq_in (I 76 38) 950) (σ1 := (10, [some (.ref 76), some (.int x1)], [], (iq_sh l, (iq_upI I 96 (Int32.toNatClampNeg (I 76 38)) x1), J, X))) (fun _ => rfl) hc_ ?_
  obtain ⟨I1, eI1, h⟩ := ir_letG h
  rw [← eI1]
  clear eI1
  refine iq_G_go (k := 5) (σ' := (17, [some (.ref 76), some (.int x1)], [.int ((I1 76 38) + (1 : Int32)), .ref 76], (iq_sh l, I1, J, X))) (fun _ => rfl) ?_
  refine iq_G_go (k := 1) (σ' := (20, [some (.ref 76), some (.int x1)], [], (iq_sh l, (iq_upI I1 76 38 ((I1 76 38) + (1 : Int32))), J, X))) (fun _ => rfl) ?_
  obtain ⟨I2, eI2, h⟩ := ir_letG h
  rw [← eI2]
  clear eI2
  cases h
  exact iq_G_ret (fun _ => rfl)
set_option maxRecDepth 100000 in
theorem zM_puts_ok (l : Nat)  (x1 : Int32) (I : iq_I) (J : iq_J) (X : iq_X) {q : iq_I} (h : zM_puts x1 I = some q) : iq_Cc 1 222 [.ref 76, .int x1] (iq_sh l, I, J, X) (.inl none, (iq_sh l, q, J, X)) := by
  refine iq_Cc_of (L := [some (.ref 76), some (.int x1)]) rfl rfl ?_
  unfold zM_puts at h
  refine iq_G_go (k := 5) (σ' := (9, [some (.ref 76), some (.int x1)], [.int x1, .int (I 76 37), .ref 95], (iq_sh l, I, J, X))) (fun _ => rfl) ?_
  obtain ⟨hc_, h⟩ := iq_itn h
  refine iq_G_pos (c := iq_in (I 76 37) 4000) (σ1 := (10, [some (.ref 76), some (.int x1)], [], (iq_sh l, (iq_upI I 95 (Int32.toNatClampNeg (I 76 37)) x1), J, X))) (fun _ => rfl) hc_ ?_
  obtain ⟨I1, eI1, h⟩ := ir_letG h
  rw [← eI1]
  clear eI1
  refine iq_G_go (k := 5) (σ' := (17, [some (.ref 76), some (.int x1)], [.int ((I1 76 37) + (1 : Int32)), .ref 76], (iq_sh l, I1, J, X))) (fun _ => rfl) ?_
  refine iq_G_go (k := 1) (σ' := (20, [some (.ref 76), some (.int x1)], [], (iq_sh l, (iq_upI I1 76 37 ((I1 76 37) + (1 : Int32))), J, X))) (fun _ => rfl) ?_
  obtain ⟨I2, eI2, h⟩ := ir_letG h
  rw [← eI2]
  clear eI2
  cases h
  exact iq_G_ret (fun _ => rfl)
set_option maxRecDepth 100000 in
theorem zM_part_91_ok (l : Nat)   (I : iq_I) (J : iq_J) (X : iq_X)  {q : iq_I × iq_J} (h : zM_part_91 I J = some q)  : iq_Gg 3 227 (91, [some (.ref 76), none], [], (iq_sh l, I, J, X)) (.inl none, (iq_sh l, q.1, q.2, X)) := by
  unfold zM_part_91 at h
  refine iq_G_go (k := 1) (σ' := (92, [some (.ref 76), none], [.ref 76], (iq_sh l, I, J, X))) (fun _ => rfl) ?_
  obtain ⟨q3, hq3, h⟩ := iq_bnd h
  refine iq_G_call (σ' := (95, [some (.ref 76), none], [.int q3], (iq_sh l, I, J, X))) (fun _ => rfl) (zM_isGood_ok l  I J X hq3) rfl rfl ?_
  rcases iq_ite h with ⟨hc_, h⟩ | ⟨hc_, h⟩
  · refine iq_G_pos (c := q3 = 0) (σ1 := (102, [some (.ref 76), none], [], (iq_sh l, I, J, X))) (fun _ => rfl) hc_ ?_
    cases h
    exact iq_G_ret (fun _ => rfl)
  · refine iq_G_neg (c := q3 = 0) (σ1 := (98, [some (.ref 76), none], [], (iq_sh l, I, J, X))) (fun _ => rfl) hc_ ?_
    refine iq_G_go (k := 1) (σ' := (99, [some (.ref 76), none], [.ref 76], (iq_sh l, I, J, X))) (fun _ => rfl) ?_
    obtain ⟨q4, hq4, h⟩ := iq_bnd h
    refine iq_G_call (σ' := (102, [some (.ref 76), none], [], (iq_sh l, q4.1, q4.2, X))) (fun _ => rfl) (zM_goes_ok l  I J X hq4) rfl rfl ?_
    cases h
    exact iq_G_ret (fun _ => rfl)
set_option maxRecDepth 100000 in
theorem zM_part_73_ok (l : Nat)  (x1 : Int32) (I : iq_I) (J : iq_J) (X : iq_X)  {q : iq_I × iq_J} (h : zM_part_73 x1 I J = some q)  : iq_Gg 3 227 (73, [some (.ref 76), some (.int x1)], [], (iq_sh l, I, J, X)) (.inl none, (iq_sh l, q.1, q.2, X)) := by
  unfold zM_part_73 at h
  refine iq_G_go (k := 2) (σ' := (75, [some (.ref 76), some (.int x1)], [.int (2 : Int32), .ref 76], (iq_sh l, I, J, X))) (fun _ => rfl) ?_
  obtain ⟨q7, hq7, h⟩ := iq_bnd h
  refine iq_G_call (σ' := (78, [some (.ref 76), some (.int x1)], [], (iq_sh l, q7, J, X))) (fun _ => rfl) (zM_puts_ok l (2 : Int32) I J X hq7) rfl rfl ?_
  refine iq_G_go (k := 2) (σ' := (80, [some (.ref 76), some (.int x1)], [.int x1, .ref 76], (iq_sh l, q7, J, X))) (fun _ => rfl) ?_
  obtain ⟨q8, hq8, h⟩ := iq_bnd h
  refine iq_G_call (σ' := (83, [some (.ref 76), some (.int x1)], [], (iq_sh l, q8, J, X))) (fun _ => rfl) (zM_puts_ok l x1 q7 J X hq8) rfl rfl ?_
  refine iq_G_go (k := 1) (σ' := (91, [some (.ref 76), some (.int x1)], [], (iq_sh l, q8, J, X))) (fun _ => rfl) ?_
  exact iq_G_fg (L := [some (.ref 76), none]) (And.intro rfl trivial) (zM_part_91_ok l q8 J X  h )
set_option maxRecDepth 100000 in
theorem zM_part_68_ok (l : Nat)  (x1 : Int32) (I : iq_I) (J : iq_J) (X : iq_X)  {q : iq_I × iq_J} (h : zM_part_68 x1 I J = some q)  : iq_Gg 3 227 (68, [some (.ref 76), some (.int x1)], [], (iq_sh l, I, J, X)) (.inl none, (iq_sh l, q.1, q.2, X)) := by
  unfold zM_part_68 at h
  refine iq_G_go (k := 2) (σ' := (70, [some (.ref 76), some (.int x1)], [.int (3 : Int32), .ref 76], (iq_sh l, I, J, X))) (fun _ => rfl) ?_
  obtain ⟨q6, hq6, h⟩ := iq_bnd h
  refine iq_G_call (σ' := (73, [some (.ref 76), some (.int x1)], [], (iq_sh l, q6, J, X))) (fun _ => rfl) (zM_wrong_ok l (3 : Int32) I J X hq6) rfl rfl ?_
  exact iq_G_fg (L := [some (.ref 76), some (.int x1)]) (And.intro rfl (And.intro rfl trivial)) (zM_part_73_ok l x1 q6 J X  h )
set_option maxRecDepth 100000 in
theorem zM_part_29_ok (l : Nat)   (I : iq_I) (J : iq_J) (X : iq_X)  {q : iq_I × iq_J} (h : zM_part_29 I J = some q)  : iq_Gg 3 227 (29, [some (.ref 76), none], [], (iq_sh l, I, J, X)) (.inl none, (iq_sh l, q.1, q.2, X)) := by
  unfold zM_part_29 at h
  refine iq_G_go (k := 2) (σ' := (31, [some (.ref 76), none], [.int (1 : Int32), .ref 76], (iq_sh l, I, J, X))) (fun _ => rfl) ?_
  obtain ⟨q9, hq9, h⟩ := iq_bnd h
  refine iq_G_call (σ' := (34, [some (.ref 76), none], [], (iq_sh l, q9, J, X))) (fun _ => rfl) (zM_puts_ok l (1 : Int32) I J X hq9) rfl rfl ?_
  refine iq_G_go (k := 3) (σ' := (39, [some (.ref 76), none], [.int (q9 76 26), .ref 76], (iq_sh l, q9, J, X))) (fun _ => rfl) ?_
  obtain ⟨q10, hq10, h⟩ := iq_bnd h
  refine iq_G_call (σ' := (42, [some (.ref 76), none], [], (iq_sh l, q10, J, X))) (fun _ => rfl) (zM_puts_ok l (q9 76 26) q9 J X hq10) rfl rfl ?_
  refine iq_G_go (k := 1) (σ' := (91, [some (.ref 76), none], [], (iq_sh l, q10, J, X))) (fun _ => rfl) ?_
  exact iq_G_fg (L := [some (.ref 76), none]) (And.intro rfl trivial) (zM_part_91_ok l q10 J X  h )
set_option maxRecDepth 100000 in
theorem zM_part_ok (l : Nat)   (I : iq_I) (J : iq_J) (X : iq_X) {q : iq_I × iq_J} (h : zM_part I J = some q) : iq_Cc 4 227 [.ref 76] (iq_sh l, I, J, X) (.inl none, (iq_sh l, q.1, q.2, X)) := by
  refine iq_Cc_of (L := [some (.ref 76), none]) rfl rfl ?_
  unfold zM_part at h
  refine iq_G_go (k := 1) (σ' := (1, [some (.ref 76), none], [.ref 76], (iq_sh l, I, J, X))) (fun _ => rfl) ?_
  obtain ⟨q1, hq1, h⟩ := iq_bnd h
  refine iq_G_call (σ' := (4, [some (.ref 76), none], [.int q1], (iq_sh l, I, J, X))) (fun _ => rfl) (zM_isGood_ok l  I J X hq1) rfl rfl ?_
  rcases iq_ite h with ⟨hc_, h⟩ | ⟨hc_, h⟩
  · refine iq_G_pos (c := ¬ q1 = 0) (σ1 := (8, [some (.ref 76), none], [], (iq_sh l, I, J, X))) (fun _ => rfl) hc_ ?_
    refine iq_G_go (k := 3) (σ' := (13, [some (.ref 76), none], [.int (2 : Int32), .int (I 76 23)], (iq_sh l, I, J, X))) (fun _ => rfl) ?_
    rcases iq_ite h with ⟨hc_, h⟩ | ⟨hc_, h⟩
    · refine iq_G_pos (c := ¬ (I 76 23) = (2 : Int32)) (σ1 := (45, [some (.ref 76), none], [], (iq_sh l, I, J, X))) (fun _ => rfl) hc_ ?_
      refine iq_G_go (k := 3) (σ' := (50, [some (.ref 76), none], [.int (1 : Int32), .int (I 76 23)], (iq_sh l, I, J, X))) (fun _ => rfl) ?_
      rcases iq_ite h with ⟨hc_, h⟩ | ⟨hc_, h⟩
      · refine iq_G_pos (c := ¬ (I 76 23) = (1 : Int32)) (σ1 := (86, [some (.ref 76), none], [], (iq_sh l, I, J, X))) (fun _ => rfl) hc_ ?_
        refine iq_G_go (k := 2) (σ' := (88, [some (.ref 76), none], [.int (1 : Int32), .ref 76], (iq_sh l, I, J, X))) (fun _ => rfl) ?_
        obtain ⟨q2, hq2, h⟩ := iq_bnd h
        refine iq_G_call (σ' := (91, [some (.ref 76), none], [], (iq_sh l, q2, J, X))) (fun _ => rfl) (zM_wrong_ok l (1 : Int32) I J X hq2) rfl rfl ?_
        exact iq_G_fg (L := [some (.ref 76), none]) (And.intro rfl trivial) (zM_part_91_ok l q2 J X  h )
      · refine iq_G_neg (c := ¬ (I 76 23) = (1 : Int32)) (σ1 := (53, [some (.ref 76), none], [], (iq_sh l, I, J, X))) (fun _ => rfl) hc_ ?_
        refine iq_G_go (k := 1) (σ' := (54, [some (.ref 76), none], [.ref 76], (iq_sh l, I, J, X))) (fun _ => rfl) ?_
        obtain ⟨q5, hq5, h⟩ := iq_bnd h
        refine iq_G_call (σ' := (57, [some (.ref 76), none], [.int q5], (iq_sh l, I, J, X))) (fun _ => rfl) (zM_knownWord_ok l  I J X hq5) rfl rfl ?_
        refine iq_G_go (k := 2) (σ' := (59, [some (.ref 76), some (.int q5)], [.int q5], (iq_sh l, I, J, X))) (fun _ => rfl) ?_
        rcases iq_ite h with ⟨hc_, h⟩ | ⟨hc_, h⟩
        · refine iq_G_pos (c := q5 < 0) (σ1 := (68, [some (.ref 76), some (.int q5)], [], (iq_sh l, I, J, X))) (fun _ => rfl) hc_ ?_
          exact iq_G_fg (L := [some (.ref 76), some (.int q5)]) (And.intro rfl (And.intro rfl trivial)) (zM_part_68_ok l q5 I J X  h )
        · refine iq_G_neg (c := q5 < 0) (σ1 := (62, [some (.ref 76), some (.int q5)], [], (iq_sh l, I, J, X))) (fun _ => rfl) hc_ ?_
          refine iq_G_go (k := 2) (σ' := (65, [some (.ref 76), some (.int q5)], [.int (6 : Int32), .int q5], (iq_sh l, I, J, X))) (fun _ => rfl) ?_
          rcases iq_ite h with ⟨hc_, h⟩ | ⟨hc_, h⟩
          · refine iq_G_pos (c := q5 ≤ (6 : Int32)) (σ1 := (73, [some (.ref 76), some (.int q5)], [], (iq_sh l, I, J, X))) (fun _ => rfl) hc_ ?_
            exact iq_G_fg (L := [some (.ref 76), some (.int q5)]) (And.intro rfl (And.intro rfl trivial)) (zM_part_73_ok l q5 I J X  h )
          · refine iq_G_neg (c := q5 ≤ (6 : Int32)) (σ1 := (68, [some (.ref 76), some (.int q5)], [], (iq_sh l, I, J, X))) (fun _ => rfl) hc_ ?_
            exact iq_G_fg (L := [some (.ref 76), some (.int q5)]) (And.intro rfl (And.intro rfl trivial)) (zM_part_68_ok l q5 I J X  h )
    · refine iq_G_neg (c := ¬ (I 76 23) = (2 : Int32)) (σ1 := (16, [some (.ref 76), none], [], (iq_sh l, I, J, X))) (fun _ => rfl) hc_ ?_
      refine iq_G_go (k := 3) (σ' := (21, [some (.ref 76), none], [.int (4 : Int32), .int (I 76 25)], (iq_sh l, I, J, X))) (fun _ => rfl) ?_
      rcases iq_ite h with ⟨hc_, h⟩ | ⟨hc_, h⟩
      · refine iq_G_pos (c := (I 76 25) ≤ (4 : Int32)) (σ1 := (29, [some (.ref 76), none], [], (iq_sh l, I, J, X))) (fun _ => rfl) hc_ ?_
        exact iq_G_fg (L := [some (.ref 76), none]) (And.intro rfl trivial) (zM_part_29_ok l I J X  h )
      · refine iq_G_neg (c := (I 76 25) ≤ (4 : Int32)) (σ1 := (24, [some (.ref 76), none], [], (iq_sh l, I, J, X))) (fun _ => rfl) hc_ ?_
        refine iq_G_go (k := 2) (σ' := (26, [some (.ref 76), none], [.int (2 : Int32), .ref 76], (iq_sh l, I, J, X))) (fun _ => rfl) ?_
        obtain ⟨q11, hq11, h⟩ := iq_bnd h
        refine iq_G_call (σ' := (29, [some (.ref 76), none], [], (iq_sh l, q11, J, X))) (fun _ => rfl) (zM_wrong_ok l (2 : Int32) I J X hq11) rfl rfl ?_
        exact iq_G_fg (L := [some (.ref 76), none]) (And.intro rfl trivial) (zM_part_29_ok l q11 J X  h )
  · refine iq_G_neg (c := ¬ q1 = 0) (σ1 := (7, [some (.ref 76), none], [], (iq_sh l, I, J, X))) (fun _ => rfl) hc_ ?_
    cases h
    exact iq_G_ret (fun _ => rfl)
set_option maxRecDepth 100000 in
theorem zM_operand_50_ok (l : Nat)  (x2 : Int32) (x4 : Int32) (I : iq_I) (J : iq_J) (X : iq_X)  {q : (Int32 × iq_I × iq_J) ⊕ (iq_I × iq_J)} (h : zM_operand_50 x2 x4 I J = some q) (r : iq_R × iq_M) (hc : ∀ v, q = .inl v → iq_Gg 4 229 (18, [some (.ref 76), none, some (.int x2), none, some (.int v.1)], [], (iq_sh l, v.2.1, v.2.2, X)) r) (hx : ∀ w, q = .inr w → iq_Gg 4 229 (75, [some (.ref 76), none, some (.int x2), none, none], [], (iq_sh l, w.1, w.2, X)) r) : iq_Gg 4 229 (50, [some (.ref 76), none, some (.int x2), none, some (.int x4)], [], (iq_sh l, I, J, X)) r := by
  unfold zM_operand_50 at h
  refine iq_G_go (k := 2) (σ' := (54, [some (.ref 76), none, some (.int x2), none, some (.int (x4 + (1 : Int32)))], [.ref 76], (iq_sh l, I, J, X))) (fun _ => rfl) ?_
  obtain ⟨q4, hq4, h⟩ := iq_bnd h
  refine iq_G_call (σ' := (57, [some (.ref 76), none, some (.int x2), none, some (.int (x4 + (1 : Int32)))], [.int q4], (iq_sh l, I, J, X))) (fun _ => rfl) (zM_isGood_ok l  I J X hq4) rfl rfl ?_
  rcases iq_ite h with ⟨hc_, h⟩ | ⟨hc_, h⟩
  · refine iq_G_pos (c := ¬ q4 = 0) (σ1 := (63, [some (.ref 76), none, some (.int x2), none, some (.int (x4 + (1 : Int32)))], [], (iq_sh l, I, J, X))) (fun _ => rfl) hc_ ?_
    refine iq_G_go (k := 2) (σ' := (65, [some (.ref 76), none, some (.int x2), none, some (.int (x4 + (1 : Int32)))], [.int (3 : Int32), .ref 76], (iq_sh l, I, J, X))) (fun _ => rfl) ?_
    obtain ⟨q5, hq5, h⟩ := iq_bnd h
    refine iq_G_call (σ' := (68, [some (.ref 76), none, some (.int x2), none, some (.int (x4 + (1 : Int32)))], [], (iq_sh l, q5, J, X))) (fun _ => rfl) (zM_waitsFor_ok l (3 : Int32) I J X hq5) rfl rfl ?_
    refine iq_G_go (k := 1) (σ' := (69, [some (.ref 76), none, some (.int x2), none, some (.int (x4 + (1 : Int32)))], [.ref 76], (iq_sh l, q5, J, X))) (fun _ => rfl) ?_
    obtain ⟨q6, hq6, h⟩ := iq_bnd h
    refine iq_G_call (σ' := (72, [some (.ref 76), none, some (.int x2), none, some (.int (x4 + (1 : Int32)))], [], (iq_sh l, q6.1, q6.2, X))) (fun _ => rfl) (zM_goes_ok l  q5 J X hq6) rfl rfl ?_
    refine iq_G_go (k := 1) (σ' := (18, [some (.ref 76), none, some (.int x2), none, some (.int (x4 + (1 : Int32)))], [], (iq_sh l, q6.1, q6.2, X))) (fun _ => rfl) ?_
    cases h
    exact iq_G_fg (L := [some (.ref 76), none, some (.int x2), none, some (.int (x4 + (1 : Int32)))]) (And.intro rfl (And.intro rfl (And.intro rfl trivial))) (hc ((x4 + (1 : Int32)), q6.1, q6.2) rfl)
  · refine iq_G_neg (c := ¬ q4 = 0) (σ1 := (60, [some (.ref 76), none, some (.int x2), none, some (.int (x4 + (1 : Int32)))], [], (iq_sh l, I, J, X))) (fun _ => rfl) hc_ ?_
    refine iq_G_go (k := 1) (σ' := (18, [some (.ref 76), none, some (.int x2), none, some (.int (x4 + (1 : Int32)))], [], (iq_sh l, I, J, X))) (fun _ => rfl) ?_
    cases h
    exact iq_G_fg (L := [some (.ref 76), none, some (.int x2), none, some (.int (x4 + (1 : Int32)))]) (And.intro rfl (And.intro rfl (And.intro rfl trivial))) (hc ((x4 + (1 : Int32)), I, J) rfl)
set_option maxRecDepth 100000 in
theorem zM_operand_l18_bok (l : Nat)  (x2 : Int32) (X : iq_X) (x4 : Int32) (I : iq_I) (J : iq_J) {q : (Int32 × iq_I × iq_J) ⊕ (iq_I × iq_J)} (h : zM_operand_l18_b x2 x4 I J = some q) (r : iq_R × iq_M) (hc : ∀ v, q = .inl v → iq_Gg 4 229 (18, [some (.ref 76), none, some (.int x2), none, some (.int v.1)], [], (iq_sh l, v.2.1, v.2.2, X)) r) (hx : ∀ w, q = .inr w → iq_Gg 4 229 (75, [some (.ref 76), none, some (.int x2), none, none], [], (iq_sh l, w.1, w.2, X)) r) : iq_Gg 4 229 (18, [some (.ref 76), none, some (.int x2), none, some (.int x4)], [], (iq_sh l, I, J, X)) r := by
  unfold zM_operand_l18_b at h
  refine iq_G_go (k := 1) (σ' := (19, [some (.ref 76), none, some (.int x2), none, some (.int x4)], [.ref 76], (iq_sh l, I, J, X))) (fun _ => rfl) ?_
  obtain ⟨q2, hq2, h⟩ := iq_bnd h
  refine iq_G_call (σ' := (22, [some (.ref 76), none, some (.int x2), none, some (.int x4)], [.int q2], (iq_sh l, I, J, X))) (fun _ => rfl) (zM_isGood_ok l  I J X hq2) rfl rfl ?_
  rcases iq_ite h with ⟨hc_, h⟩ | ⟨hc_, h⟩
  · refine iq_G_pos (c := q2 = 0) (σ1 := (75, [some (.ref 76), none, some (.int x2), none, some (.int x4)], [], (iq_sh l, I, J, X))) (fun _ => rfl) hc_ ?_
    cases h
    exact iq_G_fg (L := [some (.ref 76), none, some (.int x2), none, none]) (And.intro rfl (And.intro rfl trivial)) (hx (I, J) rfl)
  · refine iq_G_neg (c := q2 = 0) (σ1 := (25, [some (.ref 76), none, some (.int x2), none, some (.int x4)], [], (iq_sh l, I, J, X))) (fun _ => rfl) hc_ ?_
    refine iq_G_go (k := 1) (σ' := (26, [some (.ref 76), none, some (.int x2), none, some (.int x4)], [.int x2], (iq_sh l, I, J, X))) (fun _ => rfl) ?_
    rcases iq_ite h with ⟨hc_, h⟩ | ⟨hc_, h⟩
    · refine iq_G_pos (c := x2 = 0) (σ1 := (75, [some (.ref 76), none, some (.int x2), none, some (.int x4)], [], (iq_sh l, I, J, X))) (fun _ => rfl) hc_ ?_
      cases h
      exact iq_G_fg (L := [some (.ref 76), none, some (.int x2), none, none]) (And.intro rfl (And.intro rfl trivial)) (hx (I, J) rfl)
    · refine iq_G_neg (c := x2 = 0) (σ1 := (29, [some (.ref 76), none, some (.int x2), none, some (.int x4)], [], (iq_sh l, I, J, X))) (fun _ => rfl) hc_ ?_
      refine iq_G_go (k := 1) (σ' := (30, [some (.ref 76), none, some (.int x2), none, some (.int x4)], [.ref 76], (iq_sh l, I, J, X))) (fun _ => rfl) ?_
      obtain ⟨q3, hq3, h⟩ := iq_bnd h
      refine iq_G_call (σ' := (33, [some (.ref 76), none, some (.int x2), none, some (.int x4)], [.int q3], (iq_sh l, I, J, X))) (fun _ => rfl) (zM_knownWord_ok l  I J X hq3) rfl rfl ?_
      refine iq_G_go (k := 1) (σ' := (35, [some (.ref 76), none, some (.int x2), none, some (.int x4)], [.int (16 : Int32), .int q3], (iq_sh l, I, J, X))) (fun _ => rfl) ?_
      rcases iq_ite h with ⟨hc_, h⟩ | ⟨hc_, h⟩
      · refine iq_G_pos (c := ¬ q3 = (16 : Int32)) (σ1 := (75, [some (.ref 76), none, some (.int x2), none, some (.int x4)], [], (iq_sh l, I, J, X))) (fun _ => rfl) hc_ ?_
        cases h
        exact iq_G_fg (L := [some (.ref 76), none, some (.int x2), none, none]) (And.intro rfl (And.intro rfl trivial)) (hx (I, J) rfl)
      · refine iq_G_neg (c := ¬ q3 = (16 : Int32)) (σ1 := (38, [some (.ref 76), none, some (.int x2), none, some (.int x4)], [], (iq_sh l, I, J, X))) (fun _ => rfl) hc_ ?_
        refine iq_G_go (k := 2) (σ' := (42, [some (.ref 76), none, some (.int x2), none, some (.int x4)], [.int (6 : Int32), .int x4], (iq_sh l, I, J, X))) (fun _ => rfl) ?_
        rcases iq_ite h with ⟨hc_, h⟩ | ⟨hc_, h⟩
        · refine iq_G_pos (c := ¬ x4 = (6 : Int32)) (σ1 := (50, [some (.ref 76), none, some (.int x2), none, some (.int x4)], [], (iq_sh l, I, J, X))) (fun _ => rfl) hc_ ?_
          exact iq_G_fg (L := [some (.ref 76), none, some (.int x2), none, some (.int x4)]) (And.intro rfl (And.intro rfl (And.intro rfl trivial))) (zM_operand_50_ok l x2 x4 I J X  h r hc hx)
        · refine iq_G_neg (c := ¬ x4 = (6 : Int32)) (σ1 := (45, [some (.ref 76), none, some (.int x2), none, some (.int x4)], [], (iq_sh l, I, J, X))) (fun _ => rfl) hc_ ?_
          refine iq_G_go (k := 2) (σ' := (47, [some (.ref 76), none, some (.int x2), none, some (.int x4)], [.int (2 : Int32), .ref 76], (iq_sh l, I, J, X))) (fun _ => rfl) ?_
          obtain ⟨q7, hq7, h⟩ := iq_bnd h
          refine iq_G_call (σ' := (50, [some (.ref 76), none, some (.int x2), none, some (.int x4)], [], (iq_sh l, q7, J, X))) (fun _ => rfl) (zM_wrong_ok l (2 : Int32) I J X hq7) rfl rfl ?_
          exact iq_G_fg (L := [some (.ref 76), none, some (.int x2), none, some (.int x4)]) (And.intro rfl (And.intro rfl (And.intro rfl trivial))) (zM_operand_50_ok l x2 x4 q7 J X  h r hc hx)
set_option maxRecDepth 100000 in
theorem zM_operand_l18_ok (l : Nat)  (x2 : Int32) (X : iq_X) {n : Nat} {v : Int32 × iq_I × iq_J} {w : iq_I × iq_J} (h : zM_operand_l18 x2 n v = some w) (r : iq_R × iq_M) (hq : iq_Gg 4 229 (75, [some (.ref 76), none, some (.int x2), none, none], [], (iq_sh l, w.1, w.2, X)) r) : iq_Gg 4 229 (18, [some (.ref 76), none, some (.int x2), none, some (.int v.1)], [], (iq_sh l, v.2.1, v.2.2, X)) r :=
  iq_lp_ok (σ := fun v => (18, [some (.ref 76), none, some (.int x2), none, some (.int v.1)], [], (iq_sh l, v.2.1, v.2.2, X))) (Q := fun w r => iq_Gg 4 229 (75, [some (.ref 76), none, some (.int x2), none, none], [], (iq_sh l, w.1, w.2, X)) r) (fun v q hv r h1 h2 => zM_operand_l18_bok l x2 X v.1 v.2.1 v.2.2 hv r h1 h2) h r hq
set_option maxRecDepth 100000 in
theorem zM_operand_96_ok (l : Nat)  (x2 : Int32) (s0 : Int32) (I : iq_I) (J : iq_J) (X : iq_X)  {q : (Int32 × Int32 × iq_I × iq_J) ⊕ (iq_I × iq_J)} (h : zM_operand_96 x2 s0 I J = some q) (r : iq_R × iq_M) (hc : ∀ v, q = .inl v → iq_Gg 4 229 (4, [some (.ref 76), none, some (.int v.1), some (.int v.2.1), none], [], (iq_sh l, v.2.2.1, v.2.2.2, X)) r) (hx : ∀ w, q = .inr w → iq_Gg 4 229 (120, [some (.ref 76), none, none, none, none], [], (iq_sh l, w.1, w.2, X)) r) : iq_Gg 4 229 (96, [some (.ref 76), none, some (.int x2), none, none], [.int s0], (iq_sh l, I, J, X)) r := by
  unfold zM_operand_96 at h
  refine iq_G_go (k := 2) (σ' := (98, [some (.ref 76), none, some (.int x2), some (.int s0), none], [.int s0], (iq_sh l, I, J, X))) (fun _ => rfl) ?_
  rcases iq_ite h with ⟨hc_, h⟩ | ⟨hc_, h⟩
  · refine iq_G_pos (c := s0 = 0) (σ1 := (117, [some (.ref 76), none, some (.int x2), some (.int s0), none], [], (iq_sh l, I, J, X))) (fun _ => rfl) hc_ ?_
    refine iq_G_go (k := 1) (σ' := (4, [some (.ref 76), none, some (.int x2), some (.int s0), none], [], (iq_sh l, I, J, X))) (fun _ => rfl) ?_
    cases h
    exact iq_G_fg (L := [some (.ref 76), none, some (.int x2), some (.int s0), none]) (And.intro rfl (And.intro rfl (And.intro rfl trivial))) (hc (x2, s0, I, J) rfl)
  · refine iq_G_neg (c := s0 = 0) (σ1 := (101, [some (.ref 76), none, some (.int x2), some (.int s0), none], [], (iq_sh l, I, J, X))) (fun _ => rfl) hc_ ?_
    refine iq_G_go (k := 2) (σ' := (104, [some (.ref 76), none, some (.int x2), some (.int s0), none], [.int (14 : Int32), .ref 76], (iq_sh l, I, J, X))) (fun _ => rfl) ?_
    obtain ⟨q10, hq10, h⟩ := iq_bnd h
    refine iq_G_call (σ' := (107, [some (.ref 76), none, some (.int x2), some (.int s0), none], [], (iq_sh l, q10, J, X))) (fun _ => rfl) (zM_waitsFor_ok l (14 : Int32) I J X hq10) rfl rfl ?_
    refine iq_G_go (k := 1) (σ' := (108, [some (.ref 76), none, some (.int x2), some (.int s0), none], [.ref 76], (iq_sh l, q10, J, X))) (fun _ => rfl) ?_
    obtain ⟨q11, hq11, h⟩ := iq_bnd h
    refine iq_G_call (σ' := (111, [some (.ref 76), none, some (.int x2), some (.int s0), none], [], (iq_sh l, q11.1, q11.2, X))) (fun _ => rfl) (zM_goes_ok l  q10 J X hq11) rfl rfl ?_
    refine iq_G_go (k := 1) (σ' := (112, [some (.ref 76), none, some (.int x2), some (.int s0), none], [.ref 76], (iq_sh l, q11.1, q11.2, X))) (fun _ => rfl) ?_
    obtain ⟨q12, hq12, h⟩ := iq_bnd h
    refine iq_G_call (σ' := (115, [some (.ref 76), none, some (.int x2), some (.int s0), none], [], (iq_sh l, q12, q11.2, X))) (fun _ => rfl) (zM_deeper_ok l  q11.1 q11.2 X hq12) rfl rfl ?_
    refine iq_G_go (k := 3) (σ' := (4, [some (.ref 76), none, some (.int (1 : Int32)), some (.int s0), none], [], (iq_sh l, q12, q11.2, X))) (fun _ => rfl) ?_
    cases h
    exact iq_G_fg (L := [some (.ref 76), none, some (.int (1 : Int32)), some (.int s0), none]) (And.intro rfl (And.intro rfl (And.intro rfl trivial))) (hc ((1 : Int32), s0, q12, q11.2) rfl)
set_option maxRecDepth 100000 in
theorem zM_operand_95_ok (l : Nat)  (x2 : Int32) (I : iq_I) (J : iq_J) (X : iq_X)  {q : (Int32 × Int32 × iq_I × iq_J) ⊕ (iq_I × iq_J)} (h : zM_operand_95 x2 I J = some q) (r : iq_R × iq_M) (hc : ∀ v, q = .inl v → iq_Gg 4 229 (4, [some (.ref 76), none, some (.int v.1), some (.int v.2.1), none], [], (iq_sh l, v.2.2.1, v.2.2.2, X)) r) (hx : ∀ w, q = .inr w → iq_Gg 4 229 (120, [some (.ref 76), none, none, none, none], [], (iq_sh l, w.1, w.2, X)) r) : iq_Gg 4 229 (95, [some (.ref 76), none, some (.int x2), none, none], [], (iq_sh l, I, J, X)) r := by
  unfold zM_operand_95 at h
  refine iq_G_go (k := 1) (σ' := (96, [some (.ref 76), none, some (.int x2), none, none], [.int (0 : Int32)], (iq_sh l, I, J, X))) (fun _ => rfl) ?_
  exact iq_G_fg (L := [some (.ref 76), none, some (.int x2), none, none]) (And.intro rfl (And.intro rfl trivial)) (zM_operand_96_ok l x2 (0 : Int32) I J X  h r hc hx)
set_option maxRecDepth 100000 in
theorem zM_operand_75_ok (l : Nat)  (x2 : Int32) (I : iq_I) (J : iq_J) (X : iq_X)  {q : (Int32 × Int32 × iq_I × iq_J) ⊕ (iq_I × iq_J)} (h : zM_operand_75 x2 I J = some q) (r : iq_R × iq_M) (hc : ∀ v, q = .inl v → iq_Gg 4 229 (4, [some (.ref 76), none, some (.int v.1), some (.int v.2.1), none], [], (iq_sh l, v.2.2.1, v.2.2.2, X)) r) (hx : ∀ w, q = .inr w → iq_Gg 4 229 (120, [some (.ref 76), none, none, none, none], [], (iq_sh l, w.1, w.2, X)) r) : iq_Gg 4 229 (75, [some (.ref 76), none, some (.int x2), none, none], [], (iq_sh l, I, J, X)) r := by
  unfold zM_operand_75 at h
  refine iq_G_go (k := 1) (σ' := (76, [some (.ref 76), none, some (.int x2), none, none], [.ref 76], (iq_sh l, I, J, X))) (fun _ => rfl) ?_
  obtain ⟨q9, hq9, h⟩ := iq_bnd h
  refine iq_G_call (σ' := (79, [some (.ref 76), none, some (.int x2), none, none], [.int q9], (iq_sh l, I, J, X))) (fun _ => rfl) (zM_isGood_ok l  I J X hq9) rfl rfl ?_
  rcases iq_ite h with ⟨hc_, h⟩ | ⟨hc_, h⟩
  · refine iq_G_pos (c := q9 = 0) (σ1 := (95, [some (.ref 76), none, some (.int x2), none, none], [], (iq_sh l, I, J, X))) (fun _ => rfl) hc_ ?_
    exact iq_G_fg (L := [some (.ref 76), none, some (.int x2), none, none]) (And.intro rfl (And.intro rfl trivial)) (zM_operand_95_ok l x2 I J X  h r hc hx)
  · refine iq_G_neg (c := q9 = 0) (σ1 := (82, [some (.ref 76), none, some (.int x2), none, none], [], (iq_sh l, I, J, X))) (fun _ => rfl) hc_ ?_
    refine iq_G_go (k := 2) (σ' := (85, [some (.ref 76), none, some (.int x2), none, none], [.int (40 : Int32), .ref 76], (iq_sh l, I, J, X))) (fun _ => rfl) ?_
    obtain ⟨q13, hq13, h⟩ := iq_bnd h
    refine iq_G_call (σ' := (88, [some (.ref 76), none, some (.int x2), none, none], [.int q13], (iq_sh l, I, J, X))) (fun _ => rfl) (zM_isSign_ok l (40 : Int32) I J X hq13) rfl rfl ?_
    rcases iq_ite h with ⟨hc_, h⟩ | ⟨hc_, h⟩
    · refine iq_G_pos (c := q13 = 0) (σ1 := (95, [some (.ref 76), none, some (.int x2), none, none], [], (iq_sh l, I, J, X))) (fun _ => rfl) hc_ ?_
      exact iq_G_fg (L := [some (.ref 76), none, some (.int x2), none, none]) (And.intro rfl (And.intro rfl trivial)) (zM_operand_95_ok l x2 I J X  h r hc hx)
    · refine iq_G_neg (c := q13 = 0) (σ1 := (91, [some (.ref 76), none, some (.int x2), none, none], [], (iq_sh l, I, J, X))) (fun _ => rfl) hc_ ?_
      refine iq_G_go (k := 2) (σ' := (96, [some (.ref 76), none, some (.int x2), none, none], [.int (1 : Int32)], (iq_sh l, I, J, X))) (fun _ => rfl) ?_
      exact iq_G_fg (L := [some (.ref 76), none, some (.int x2), none, none]) (And.intro rfl (And.intro rfl trivial)) (zM_operand_96_ok l x2 (1 : Int32) I J X  h r hc hx)
set_option maxRecDepth 100000 in
theorem zM_operand_l4_bok (l : Nat)   (X : iq_X) (x2 : Int32) (x3 : Int32) (I : iq_I) (J : iq_J) {q : (Int32 × Int32 × iq_I × iq_J) ⊕ (iq_I × iq_J)} (h : zM_operand_l4_b  x2 x3 I J = some q) (r : iq_R × iq_M) (hc : ∀ v, q = .inl v → iq_Gg 4 229 (4, [some (.ref 76), none, some (.int v.1), some (.int v.2.1), none], [], (iq_sh l, v.2.2.1, v.2.2.2, X)) r) (hx : ∀ w, q = .inr w → iq_Gg 4 229 (120, [some (.ref 76), none, none, none, none], [], (iq_sh l, w.1, w.2, X)) r) : iq_Gg 4 229 (4, [some (.ref 76), none, some (.int x2), some (.int x3), none], [], (iq_sh l, I, J, X)) r := by
  unfold zM_operand_l4_b at h
  refine iq_G_go (k := 1) (σ' := (5, [some (.ref 76), none, some (.int x2), some (.int x3), none], [.int x3], (iq_sh l, I, J, X))) (fun _ => rfl) ?_
  rcases iq_ite h with ⟨hc_, h⟩ | ⟨hc_, h⟩
  · refine iq_G_pos (c := x3 = 0) (σ1 := (120, [some (.ref 76), none, some (.int x2), some (.int x3), none], [], (iq_sh l, I, J, X))) (fun _ => rfl) hc_ ?_
    cases h
    exact iq_G_fg (L := [some (.ref 76), none, none, none, none]) (And.intro rfl trivial) (hx (I, J) rfl)
  · refine iq_G_neg (c := x3 = 0) (σ1 := (8, [some (.ref 76), none, some (.int x2), some (.int x3), none], [], (iq_sh l, I, J, X))) (fun _ => rfl) hc_ ?_
    refine iq_G_go (k := 1) (σ' := (9, [some (.ref 76), none, some (.int x2), some (.int x3), none], [.ref 76], (iq_sh l, I, J, X))) (fun _ => rfl) ?_
    obtain ⟨q1, hq1, h⟩ := iq_bnd h
    refine iq_G_call (σ' := (12, [some (.ref 76), none, some (.int x2), some (.int x3), none], [.int q1], (iq_sh l, I, J, X))) (fun _ => rfl) (zM_isGood_ok l  I J X hq1) rfl rfl ?_
    rcases iq_ite h with ⟨hc_, h⟩ | ⟨hc_, h⟩
    · refine iq_G_pos (c := q1 = 0) (σ1 := (120, [some (.ref 76), none, some (.int x2), some (.int x3), none], [], (iq_sh l, I, J, X))) (fun _ => rfl) hc_ ?_
      cases h
      exact iq_G_fg (L := [some (.ref 76), none, none, none, none]) (And.intro rfl trivial) (hx (I, J) rfl)
    · refine iq_G_neg (c := q1 = 0) (σ1 := (15, [some (.ref 76), none, some (.int x2), some (.int x3), none], [], (iq_sh l, I, J, X))) (fun _ => rfl) hc_ ?_
      refine iq_G_go (k := 2) (σ' := (18, [some (.ref 76), none, some (.int x2), some (.int x3), some (.int (0 : Int32))], [], (iq_sh l, I, J, X))) (fun _ => rfl) ?_
      obtain ⟨w8, hw8, h⟩ := iq_bnd h
      refine iq_G_fg (L := [some (.ref 76), none, some (.int x2), none, some (.int (0 : Int32))]) (And.intro rfl (And.intro rfl (And.intro rfl trivial))) ?_
      refine zM_operand_l18_ok l x2 X hw8 _ ?_
      show iq_Gg 4 229 (75, [some (.ref 76), none, some (.int x2), none, none], [], (iq_sh l, w8.1, w8.2, X)) _
      exact iq_G_fg (L := [some (.ref 76), none, some (.int x2), none, none]) (And.intro rfl (And.intro rfl trivial)) (zM_operand_75_ok l x2 w8.1 w8.2 X  h r hc hx)
set_option maxRecDepth 100000 in
theorem zM_operand_l4_ok (l : Nat)   (X : iq_X) {n : Nat} {v : Int32 × Int32 × iq_I × iq_J} {w : iq_I × iq_J} (h : zM_operand_l4  n v = some w) (r : iq_R × iq_M) (hq : iq_Gg 4 229 (120, [some (.ref 76), none, none, none, none], [], (iq_sh l, w.1, w.2, X)) r) : iq_Gg 4 229 (4, [some (.ref 76), none, some (.int v.1), some (.int v.2.1), none], [], (iq_sh l, v.2.2.1, v.2.2.2, X)) r :=
  iq_lp_ok (σ := fun v => (4, [some (.ref 76), none, some (.int v.1), some (.int v.2.1), none], [], (iq_sh l, v.2.2.1, v.2.2.2, X))) (Q := fun w r => iq_Gg 4 229 (120, [some (.ref 76), none, none, none, none], [], (iq_sh l, w.1, w.2, X)) r) (fun v q hv r h1 h2 => zM_operand_l4_bok l X v.1 v.2.1 v.2.2.1 v.2.2.2 hv r h1 h2) h r hq
set_option maxRecDepth 100000 in
theorem zM_operand_120_ok (l : Nat)   (I : iq_I) (J : iq_J) (X : iq_X)  {q : iq_I × iq_J} (h : zM_operand_120 I J = some q)  : iq_Gg 4 229 (120, [some (.ref 76), none, none, none, none], [], (iq_sh l, I, J, X)) (.inl none, (iq_sh l, q.1, q.2, X)) := by
  unfold zM_operand_120 at h
  refine iq_G_go (k := 1) (σ' := (121, [some (.ref 76), none, none, none, none], [.ref 76], (iq_sh l, I, J, X))) (fun _ => rfl) ?_
  obtain ⟨q15, hq15, h⟩ := iq_bnd h
  refine iq_G_call (σ' := (124, [some (.ref 76), none, none, none, none], [], (iq_sh l, q15.1, q15.2, X))) (fun _ => rfl) (zM_part_ok l  I J X hq15) rfl rfl ?_
  cases h
  exact iq_G_ret (fun _ => rfl)
set_option maxRecDepth 100000 in
theorem zM_operand_ok (l : Nat)  (x1 : Int32) (I : iq_I) (J : iq_J) (X : iq_X) {q : iq_I × iq_J} (h : zM_operand x1 I J = some q) : iq_Cc 5 229 [.ref 76, .int x1] (iq_sh l, I, J, X) (.inl none, (iq_sh l, q.1, q.2, X)) := by
  refine iq_Cc_of (L := [some (.ref 76), some (.int x1), none, none, none]) rfl rfl ?_
  unfold zM_operand at h
  refine iq_G_go (k := 4) (σ' := (4, [some (.ref 76), some (.int x1), some (.int x1), some (.int (1 : Int32)), none], [], (iq_sh l, I, J, X))) (fun _ => rfl) ?_
  obtain ⟨w14, hw14, h⟩ := iq_bnd h
  refine iq_G_fg (L := [some (.ref 76), none, some (.int x1), some (.int (1 : Int32)), none]) (And.intro rfl (And.intro rfl (And.intro rfl trivial))) ?_
  refine zM_operand_l4_ok l X hw14 _ ?_
  show iq_Gg 4 229 (120, [some (.ref 76), none, none, none, none], [], (iq_sh l, w14.1, w14.2, X)) _
  exact iq_G_fg (L := [some (.ref 76), none, none, none, none]) (And.intro rfl trivial) (zM_operand_120_ok l w14.1 w14.2 X  h )
set_option maxRecDepth 100000 in
theorem zM_isOpen_ok (l : Nat)  (x0 : Int32) (I : iq_I) (J : iq_J) (X : iq_X) {q : Int32} (h : zM_isOpen x0 I = some q) : iq_Cc 1 223 [.int x0] (iq_sh l, I, J, X) (.inl (some (.int q)), (iq_sh l, I, J, X)) := by
  refine iq_Cc_of (L := [some (.int x0)]) rfl rfl ?_
  unfold zM_isOpen at h
  refine iq_G_go (k := 2) (σ' := (3, [some (.int x0)], [.int (14 : Int32), .int x0], (iq_sh l, I, J, X))) (fun _ => rfl) ?_
  rcases iq_ite h with ⟨hc_, h⟩ | ⟨hc_, h⟩
  · refine iq_G_pos (c := x0 < (14 : Int32)) (σ1 := (10, [some (.int x0)], [], (iq_sh l, I, J, X))) (fun _ => rfl) hc_ ?_
    refine iq_G_go (k := 1) (σ' := (11, [some (.int x0)], [.int (0 : Int32)], (iq_sh l, I, J, X))) (fun _ => rfl) ?_
    cases h
    exact iq_G_ret (fun _ => rfl)
  · refine iq_G_neg (c := x0 < (14 : Int32)) (σ1 := (6, [some (.int x0)], [], (iq_sh l, I, J, X))) (fun _ => rfl) hc_ ?_
    refine iq_G_go (k := 2) (σ' := (11, [some (.int x0)], [.int (1 : Int32)], (iq_sh l, I, J, X))) (fun _ => rfl) ?_
    cases h
    exact iq_G_ret (fun _ => rfl)
set_option maxRecDepth 100000 in
theorem zM_strength_ok (l : Nat)  (x0 : Int32) (I : iq_I) (J : iq_J) (X : iq_X) {q : Int32} (h : zM_strength x0 I = some q) : iq_Cc 1 224 [.int x0] (iq_sh l, I, J, X) (.inl (some (.int q)), (iq_sh l, I, J, X)) := by
  refine iq_Cc_of (L := [some (.int x0)]) rfl rfl ?_
  unfold zM_strength at h
  refine iq_G_go (k := 2) (σ' := (2, [some (.int x0)], [.int (5 : Int32), .int x0], (iq_sh l, I, J, X))) (fun _ => rfl) ?_
  rcases iq_ite h with ⟨hc_, h⟩ | ⟨hc_, h⟩
  · refine iq_G_pos (c := ¬ x0 = (5 : Int32)) (σ1 := (9, [some (.int x0)], [], (iq_sh l, I, J, X))) (fun _ => rfl) hc_ ?_
    refine iq_G_go (k := 2) (σ' := (11, [some (.int x0)], [.int (4 : Int32), .int x0], (iq_sh l, I, J, X))) (fun _ => rfl) ?_
    rcases iq_ite h with ⟨hc_, h⟩ | ⟨hc_, h⟩
    · refine iq_G_pos (c := ¬ x0 = (4 : Int32)) (σ1 := (18, [some (.int x0)], [], (iq_sh l, I, J, X))) (fun _ => rfl) hc_ ?_
      refine iq_G_go (k := 2) (σ' := (20, [some (.int x0)], [.int (3 : Int32), .int x0], (iq_sh l, I, J, X))) (fun _ => rfl) ?_
      rcases iq_ite h with ⟨hc_, h⟩ | ⟨hc_, h⟩
      · refine iq_G_pos (c := ¬ x0 = (3 : Int32)) (σ1 := (27, [some (.int x0)], [], (iq_sh l, I, J, X))) (fun _ => rfl) hc_ ?_
        refine iq_G_go (k := 2) (σ' := (30, [some (.int x0)], [.int (6 : Int32), .int x0], (iq_sh l, I, J, X))) (fun _ => rfl) ?_
        rcases iq_ite h with ⟨hc_, h⟩ | ⟨hc_, h⟩
        · refine iq_G_pos (c := x0 = (6 : Int32)) (σ1 := (39, [some (.int x0)], [], (iq_sh l, I, J, X))) (fun _ => rfl) hc_ ?_
          refine iq_G_go (k := 2) (σ' := (61, [some (.int x0)], [.int (4 : Int32)], (iq_sh l, I, J, X))) (fun _ => rfl) ?_
          cases h
          exact iq_G_ret (fun _ => rfl)
        · refine iq_G_neg (c := x0 = (6 : Int32)) (σ1 := (33, [some (.int x0)], [], (iq_sh l, I, J, X))) (fun _ => rfl) hc_ ?_
          refine iq_G_go (k := 2) (σ' := (36, [some (.int x0)], [.int (7 : Int32), .int x0], (iq_sh l, I, J, X))) (fun _ => rfl) ?_
          rcases iq_ite h with ⟨hc_, h⟩ | ⟨hc_, h⟩
          · refine iq_G_pos (c := ¬ x0 = (7 : Int32)) (σ1 := (43, [some (.int x0)], [], (iq_sh l, I, J, X))) (fun _ => rfl) hc_ ?_
            refine iq_G_go (k := 2) (σ' := (46, [some (.int x0)], [.int (8 : Int32), .int x0], (iq_sh l, I, J, X))) (fun _ => rfl) ?_
            rcases iq_ite h with ⟨hc_, h⟩ | ⟨hc_, h⟩
            · refine iq_G_pos (c := x0 = (8 : Int32)) (σ1 := (55, [some (.int x0)], [], (iq_sh l, I, J, X))) (fun _ => rfl) hc_ ?_
              refine iq_G_go (k := 2) (σ' := (61, [some (.int x0)], [.int (5 : Int32)], (iq_sh l, I, J, X))) (fun _ => rfl) ?_
              cases h
              exact iq_G_ret (fun _ => rfl)
            · refine iq_G_neg (c := x0 = (8 : Int32)) (σ1 := (49, [some (.int x0)], [], (iq_sh l, I, J, X))) (fun _ => rfl) hc_ ?_
              refine iq_G_go (k := 2) (σ' := (52, [some (.int x0)], [.int (9 : Int32), .int x0], (iq_sh l, I, J, X))) (fun _ => rfl) ?_
              rcases iq_ite h with ⟨hc_, h⟩ | ⟨hc_, h⟩
              · refine iq_G_pos (c := ¬ x0 = (9 : Int32)) (σ1 := (59, [some (.int x0)], [], (iq_sh l, I, J, X))) (fun _ => rfl) hc_ ?_
                refine iq_G_go (k := 1) (σ' := (61, [some (.int x0)], [.int (6 : Int32)], (iq_sh l, I, J, X))) (fun _ => rfl) ?_
                cases h
                exact iq_G_ret (fun _ => rfl)
              · refine iq_G_neg (c := ¬ x0 = (9 : Int32)) (σ1 := (55, [some (.int x0)], [], (iq_sh l, I, J, X))) (fun _ => rfl) hc_ ?_
                refine iq_G_go (k := 2) (σ' := (61, [some (.int x0)], [.int (5 : Int32)], (iq_sh l, I, J, X))) (fun _ => rfl) ?_
                cases h
                exact iq_G_ret (fun _ => rfl)
          · refine iq_G_neg (c := ¬ x0 = (7 : Int32)) (σ1 := (39, [some (.int x0)], [], (iq_sh l, I, J, X))) (fun _ => rfl) hc_ ?_
            refine iq_G_go (k := 2) (σ' := (61, [some (.int x0)], [.int (4 : Int32)], (iq_sh l, I, J, X))) (fun _ => rfl) ?_
            cases h
            exact iq_G_ret (fun _ => rfl)
      · refine iq_G_neg (c := ¬ x0 = (3 : Int32)) (σ1 := (23, [some (.int x0)], [], (iq_sh l, I, J, X))) (fun _ => rfl) hc_ ?_
        refine iq_G_go (k := 2) (σ' := (61, [some (.int x0)], [.int (3 : Int32)], (iq_sh l, I, J, X))) (fun _ => rfl) ?_
        cases h
        exact iq_G_ret (fun _ => rfl)
    · refine iq_G_neg (c := ¬ x0 = (4 : Int32)) (σ1 := (14, [some (.int x0)], [], (iq_sh l, I, J, X))) (fun _ => rfl) hc_ ?_
      refine iq_G_go (k := 2) (σ' := (61, [some (.int x0)], [.int (2 : Int32)], (iq_sh l, I, J, X))) (fun _ => rfl) ?_
      cases h
      exact iq_G_ret (fun _ => rfl)
  · refine iq_G_neg (c := ¬ x0 = (5 : Int32)) (σ1 := (5, [some (.int x0)], [], (iq_sh l, I, J, X))) (fun _ => rfl) hc_ ?_
    refine iq_G_go (k := 2) (σ' := (61, [some (.int x0)], [.int (1 : Int32)], (iq_sh l, I, J, X))) (fun _ => rfl) ?_
    cases h
    exact iq_G_ret (fun _ => rfl)
set_option maxRecDepth 100000 in
theorem zM_drops_l0_bok (l : Nat)  (x1 : Int32) (J : iq_J) (X : iq_X)  (I : iq_I) {q : (iq_I) ⊕ (iq_I)} (h : zM_drops_l0_b x1 I = some q) (r : iq_R × iq_M) (hc : ∀ v, q = .inl v → iq_Gg 1 225 (0, [some (.ref 76), some (.int x1)], [], (iq_sh l, v, J, X)) r) (hx : ∀ w, q = .inr w → iq_Gg 1 225 (68, [none, none], [], (iq_sh l, w, J, X)) r) : iq_Gg 1 225 (0, [some (.ref 76), some (.int x1)], [], (iq_sh l, I, J, X)) r := by
  unfold zM_drops_l0_b at h
  refine iq_G_go (k := 2) (σ' := (4, [some (.ref 76), some (.int x1)], [.int (I 76 38)], (iq_sh l, I, J, X))) (fun _ => rfl) ?_
  rcases iq_ite h with ⟨hc_, h⟩ | ⟨hc_, h⟩
  · refine iq_G_pos (c := (I 76 38) ≤ 0) (σ1 := (68, [some (.ref 76), some (.int x1)], [], (iq_sh l, I, J, X))) (fun _ => rfl) hc_ ?_
    cases h
    exact iq_G_fg (L := [none, none]) trivial (hx I rfl)
  · refine iq_G_neg (c := (I 76 38) ≤ 0) (σ1 := (7, [some (.ref 76), some (.int x1)], [], (iq_sh l, I, J, X))) (fun _ => rfl) hc_ ?_
    refine iq_G_go (k := 6) (σ' := (17, [some (.ref 76), some (.int x1)], [.int ((I 76 38) - (1 : Int32)), .ref 96], (iq_sh l, I, J, X))) (fun _ => rfl) ?_
    obtain ⟨hc_, h⟩ := iq_itn h
    have st_ : ∀ (z_0 : Int32) (r_ : iq_R × iq_M), iq_in z_0 950 → iq_Gg 1 225 (18, [some (.ref 76), some (.int x1)], [.int (I 96 (Int32.toNatClampNeg z_0))], (iq_sh l, I, J, X)) r_ → iq_Gg 1 225 (17, [some (.ref 76), some (.int x1)], [.int z_0, .ref 96], (iq_sh l, I, J, X)) r_ := fun z_0 r_ hc_ hg_ => iq_G_pos (c := iq_in z_0 950) (σ1 := (18, [some (.ref 76), some (.int x1)], [.int (I 96 (Int32.toNatClampNeg z_0))], (iq_sh l, I, J, X))) (fun _ => rfl) hc_ hg_
    refine st_ ((I 76 38) - (1 : Int32)) _ hc_ ?_
    clear st_
    obtain ⟨q1, hq1, h⟩ := iq_bnd h
    refine iq_G_call (σ' := (21, [some (.ref 76), some (.int x1)], [.int q1], (iq_sh l, I, J, X))) (fun _ => rfl) (zM_isOpen_ok l (I 96 (Int32.toNatClampNeg ((I 76 38) - (1 : Int32)))) I J X hq1) rfl rfl ?_
    rcases iq_ite h with ⟨hc_, h⟩ | ⟨hc_, h⟩
    · refine iq_G_pos (c := ¬ q1 = 0) (σ1 := (68, [some (.ref 76), some (.int x1)], [], (iq_sh l, I, J, X))) (fun _ => rfl) hc_ ?_
      cases h
      exact iq_G_fg (L := [none, none]) trivial (hx I rfl)
    · refine iq_G_neg (c := ¬ q1 = 0) (σ1 := (24, [some (.ref 76), some (.int x1)], [], (iq_sh l, I, J, X))) (fun _ => rfl) hc_ ?_
      refine iq_G_go (k := 6) (σ' := (34, [some (.ref 76), some (.int x1)], [.int ((I 76 38) - (1 : Int32)), .ref 96], (iq_sh l, I, J, X))) (fun _ => rfl) ?_
      obtain ⟨hc_, h⟩ := iq_itn h
      have st_ : ∀ (z_0 : Int32) (r_ : iq_R × iq_M), iq_in z_0 950 → iq_Gg 1 225 (35, [some (.ref 76), some (.int x1)], [.int (I 96 (Int32.toNatClampNeg z_0))], (iq_sh l, I, J, X)) r_ → iq_Gg 1 225 (34, [some (.ref 76), some (.int x1)], [.int z_0, .ref 96], (iq_sh l, I, J, X)) r_ := fun z_0 r_ hc_ hg_ => iq_G_pos (c := iq_in z_0 950) (σ1 := (35, [some (.ref 76), some (.int x1)], [.int (I 96 (Int32.toNatClampNeg z_0))], (iq_sh l, I, J, X))) (fun _ => rfl) hc_ hg_
      refine st_ ((I 76 38) - (1 : Int32)) _ hc_ ?_
      clear st_
      obtain ⟨q2, hq2, h⟩ := iq_bnd h
      refine iq_G_call (σ' := (38, [some (.ref 76), some (.int x1)], [.int q2], (iq_sh l, I, J, X))) (fun _ => rfl) (zM_strength_ok l (I 96 (Int32.toNatClampNeg ((I 76 38) - (1 : Int32)))) I J X hq2) rfl rfl ?_
      refine iq_G_go (k := 1) (σ' := (39, [some (.ref 76), some (.int x1)], [.int x1, .int q2], (iq_sh l, I, J, X))) (fun _ => rfl) ?_
      rcases iq_ite h with ⟨hc_, h⟩ | ⟨hc_, h⟩
      · refine iq_G_pos (c := q2 < x1) (σ1 := (68, [some (.ref 76), some (.int x1)], [], (iq_sh l, I, J, X))) (fun _ => rfl) hc_ ?_
        cases h
        exact iq_G_fg (L := [none, none]) trivial (hx I rfl)
      · refine iq_G_neg (c := q2 < x1) (σ1 := (42, [some (.ref 76), some (.int x1)], [], (iq_sh l, I, J, X))) (fun _ => rfl) hc_ ?_
        refine iq_G_go (k := 5) (σ' := (49, [some (.ref 76), some (.int x1)], [.int ((I 76 38) - (1 : Int32)), .ref 76], (iq_sh l, I, J, X))) (fun _ => rfl) ?_
        refine iq_G_go (k := 1) (σ' := (52, [some (.ref 76), some (.int x1)], [], (iq_sh l, (iq_upI I 76 38 ((I 76 38) - (1 : Int32))), J, X))) (fun _ => rfl) ?_
        obtain ⟨I3, eI3, h⟩ := ir_letG h
        rw [← eI3]
        clear eI3
        refine iq_G_go (k := 5) (σ' := (61, [some (.ref 76), some (.int x1)], [.int (I3 76 38), .ref 96, .ref 76], (iq_sh l, I3, J, X))) (fun _ => rfl) ?_
        obtain ⟨hc_, h⟩ := iq_itn h
        refine iq_G_pos (c := iq_in (I3 76 38) 950) (σ1 := (62, [some (.ref 76), some (.int x1)], [.int (I3 96 (Int32.toNatClampNeg (I3 76 38))), .ref 76], (iq_sh l, I3, J, X))) (fun _ => rfl) hc_ ?_
        obtain ⟨q4, hq4, h⟩ := iq_bnd h
        refine iq_G_call (σ' := (65, [some (.ref 76), some (.int x1)], [], (iq_sh l, q4, J, X))) (fun _ => rfl) (zM_puts_ok l (I3 96 (Int32.toNatClampNeg (I3 76 38))) I3 J X hq4) rfl rfl ?_
        refine iq_G_go (k := 1) (σ' := (0, [some (.ref 76), some (.int x1)], [], (iq_sh l, q4, J, X))) (fun _ => rfl) ?_
        cases h
        exact iq_G_fg (L := [some (.ref 76), some (.int x1)]) (And.intro rfl (And.intro rfl trivial)) (hc q4 rfl)
set_option maxRecDepth 100000 in
theorem zM_drops_l0_ok (l : Nat)  (x1 : Int32) (J : iq_J) (X : iq_X) {n : Nat} {v : iq_I} {w : iq_I} (h : zM_drops_l0 x1 n v = some w) (r : iq_R × iq_M) (hq : iq_Gg 1 225 (68, [none, none], [], (iq_sh l, w, J, X)) r) : iq_Gg 1 225 (0, [some (.ref 76), some (.int x1)], [], (iq_sh l, v, J, X)) r :=
  iq_lp_ok (σ := fun v => (0, [some (.ref 76), some (.int x1)], [], (iq_sh l, v, J, X))) (Q := fun w r => iq_Gg 1 225 (68, [none, none], [], (iq_sh l, w, J, X)) r) (fun v q hv r h1 h2 => zM_drops_l0_bok l x1 J X v hv r h1 h2) h r hq
set_option maxRecDepth 100000 in
theorem zM_drops_ok (l : Nat)  (x1 : Int32) (I : iq_I) (J : iq_J) (X : iq_X) {q : iq_I} (h : zM_drops x1 I = some q) : iq_Cc 2 225 [.ref 76, .int x1] (iq_sh l, I, J, X) (.inl none, (iq_sh l, q, J, X)) := by
  refine iq_Cc_of (L := [some (.ref 76), some (.int x1)]) rfl rfl ?_
  unfold zM_drops at h
  obtain ⟨w5, hw5, h⟩ := iq_bnd h
  refine iq_G_fg (L := [some (.ref 76), some (.int x1)]) (And.intro rfl (And.intro rfl trivial)) ?_
  refine zM_drops_l0_ok l x1 J X hw5 _ ?_
  show iq_Gg 1 225 (68, [none, none], [], (iq_sh l, w5, J, X)) _
  cases h
  exact iq_G_ret (fun _ => rfl)
set_option maxRecDepth 100000 in
theorem zM_isOpened_l7_bok (l : Nat)   (I : iq_I) (J : iq_J) (X : iq_X) (x1 : Int32)  {q : (Int32) ⊕ (Int32)} (h : zM_isOpened_l7_b I x1 = some q) (r : iq_R × iq_M) (hc : ∀ v, q = .inl v → iq_Gg 1 230 (7, [some (.ref 76), some (.int v)], [], (iq_sh l, I, J, X)) r) (hx : ∀ w, q = .inr w → iq_Gg 1 230 (29, [none, some (.int w)], [], (iq_sh l, I, J, X)) r) : iq_Gg 1 230 (7, [some (.ref 76), some (.int x1)], [], (iq_sh l, I, J, X)) r := by
  unfold zM_isOpened_l7_b at h
  refine iq_G_go (k := 1) (σ' := (8, [some (.ref 76), some (.int x1)], [.int x1], (iq_sh l, I, J, X))) (fun _ => rfl) ?_
  rcases iq_ite h with ⟨hc_, h⟩ | ⟨hc_, h⟩
  · refine iq_G_pos (c := x1 < 0) (σ1 := (29, [some (.ref 76), some (.int x1)], [], (iq_sh l, I, J, X))) (fun _ => rfl) hc_ ?_
    cases h
    exact iq_G_fg (L := [none, some (.int x1)]) (And.intro rfl trivial) (hx x1 rfl)
  · refine iq_G_neg (c := x1 < 0) (σ1 := (11, [some (.ref 76), some (.int x1)], [], (iq_sh l, I, J, X))) (fun _ => rfl) hc_ ?_
    refine iq_G_go (k := 3) (σ' := (16, [some (.ref 76), some (.int x1)], [.int x1, .ref 96], (iq_sh l, I, J, X))) (fun _ => rfl) ?_
    obtain ⟨hc_, h⟩ := iq_itn h
    refine iq_G_pos (c := iq_in x1 950) (σ1 := (17, [some (.ref 76), some (.int x1)], [.int (I 96 (Int32.toNatClampNeg x1))], (iq_sh l, I, J, X))) (fun _ => rfl) hc_ ?_
    obtain ⟨q1, hq1, h⟩ := iq_bnd h
    refine iq_G_call (σ' := (20, [some (.ref 76), some (.int x1)], [.int q1], (iq_sh l, I, J, X))) (fun _ => rfl) (zM_isOpen_ok l (I 96 (Int32.toNatClampNeg x1)) I J X hq1) rfl rfl ?_
    rcases iq_ite h with ⟨hc_, h⟩ | ⟨hc_, h⟩
    · refine iq_G_pos (c := ¬ q1 = 0) (σ1 := (29, [some (.ref 76), some (.int x1)], [], (iq_sh l, I, J, X))) (fun _ => rfl) hc_ ?_
      cases h
      exact iq_G_fg (L := [none, some (.int x1)]) (And.intro rfl trivial) (hx x1 rfl)
    · refine iq_G_neg (c := ¬ q1 = 0) (σ1 := (23, [some (.ref 76), some (.int x1)], [], (iq_sh l, I, J, X))) (fun _ => rfl) hc_ ?_
      refine iq_G_go (k := 2) (σ' := (7, [some (.ref 76), some (.int (x1 + (-1 : Int32)))], [], (iq_sh l, I, J, X))) (fun _ => rfl) ?_
      cases h
      exact iq_G_fg (L := [some (.ref 76), some (.int (x1 + (-1 : Int32)))]) (And.intro rfl (And.intro rfl trivial)) (hc (x1 + (-1 : Int32)) rfl)
set_option maxRecDepth 100000 in
theorem zM_isOpened_l7_ok (l : Nat)   (I : iq_I) (J : iq_J) (X : iq_X) {n : Nat} {v : Int32} {w : Int32} (h : zM_isOpened_l7 I n v = some w) (r : iq_R × iq_M) (hq : iq_Gg 1 230 (29, [none, some (.int w)], [], (iq_sh l, I, J, X)) r) : iq_Gg 1 230 (7, [some (.ref 76), some (.int v)], [], (iq_sh l, I, J, X)) r :=
  iq_lp_ok (σ := fun v => (7, [some (.ref 76), some (.int v)], [], (iq_sh l, I, J, X))) (Q := fun w r => iq_Gg 1 230 (29, [none, some (.int w)], [], (iq_sh l, I, J, X)) r) (fun v q hv r h1 h2 => zM_isOpened_l7_bok l I J X v hv r h1 h2) h r hq
set_option maxRecDepth 100000 in
theorem zM_isOpened_29_ok (l : Nat)  (x1 : Int32) (I : iq_I) (J : iq_J) (X : iq_X)  {q : Int32} (h : zM_isOpened_29 x1 I = some q)  : iq_Gg 1 230 (29, [none, some (.int x1)], [], (iq_sh l, I, J, X)) (.inl (some (.int q)), (iq_sh l, I, J, X)) := by
  unfold zM_isOpened_29 at h
  refine iq_G_go (k := 1) (σ' := (30, [none, some (.int x1)], [.int x1], (iq_sh l, I, J, X))) (fun _ => rfl) ?_
  rcases iq_ite h with ⟨hc_, h⟩ | ⟨hc_, h⟩
  · refine iq_G_pos (c := x1 < 0) (σ1 := (37, [none, some (.int x1)], [], (iq_sh l, I, J, X))) (fun _ => rfl) hc_ ?_
    refine iq_G_go (k := 1) (σ' := (38, [none, some (.int x1)], [.int (0 : Int32)], (iq_sh l, I, J, X))) (fun _ => rfl) ?_
    cases h
    exact iq_G_ret (fun _ => rfl)
  · refine iq_G_neg (c := x1 < 0) (σ1 := (33, [none, some (.int x1)], [], (iq_sh l, I, J, X))) (fun _ => rfl) hc_ ?_
    refine iq_G_go (k := 2) (σ' := (38, [none, some (.int x1)], [.int (1 : Int32)], (iq_sh l, I, J, X))) (fun _ => rfl) ?_
    cases h
    exact iq_G_ret (fun _ => rfl)
set_option maxRecDepth 100000 in
theorem zM_isOpened_ok (l : Nat)   (I : iq_I) (J : iq_J) (X : iq_X) {q : Int32} (h : zM_isOpened I = some q) : iq_Cc 2 230 [.ref 76] (iq_sh l, I, J, X) (.inl (some (.int q)), (iq_sh l, I, J, X)) := by
  refine iq_Cc_of (L := [some (.ref 76), none]) rfl rfl ?_
  unfold zM_isOpened at h
  refine iq_G_go (k := 5) (σ' := (7, [some (.ref 76), some (.int ((I 76 38) - (1 : Int32)))], [], (iq_sh l, I, J, X))) (fun _ => rfl) ?_
  obtain ⟨w2, hw2, h⟩ := iq_bnd h
  refine iq_G_fg (L := [some (.ref 76), some (.int ((I 76 38) - (1 : Int32)))]) (And.intro rfl (And.intro rfl trivial)) ?_
  refine zM_isOpened_l7_ok l I J X hw2 _ ?_
  show iq_Gg 1 230 (29, [none, some (.int w2)], [], (iq_sh l, I, J, X)) _
  exact iq_G_fg (L := [none, some (.int w2)]) (And.intro rfl trivial) (zM_isOpened_29_ok l w2 I J X  h )
set_option maxRecDepth 100000 in
theorem zM_closes_ok (l : Nat)   (I : iq_I) (J : iq_J) (X : iq_X) {q : iq_I × iq_J} (h : zM_closes I J = some q) : iq_Cc 3 231 [.ref 76] (iq_sh l, I, J, X) (.inl none, (iq_sh l, q.1, q.2, X)) := by
  refine iq_Cc_of (L := [some (.ref 76)]) rfl rfl ?_
  unfold zM_closes at h
  refine iq_G_go (k := 2) (σ' := (2, [some (.ref 76)], [.int (0 : Int32), .ref 76], (iq_sh l, I, J, X))) (fun _ => rfl) ?_
  obtain ⟨q1, hq1, h⟩ := iq_bnd h
  refine iq_G_call (σ' := (5, [some (.ref 76)], [], (iq_sh l, q1, J, X))) (fun _ => rfl) (zM_drops_ok l (0 : Int32) I J X hq1) rfl rfl ?_
  refine iq_G_go (k := 5) (σ' := (12, [some (.ref 76)], [.int ((q1 76 38) - (1 : Int32)), .ref 76], (iq_sh l, q1, J, X))) (fun _ => rfl) ?_
  refine iq_G_go (k := 1) (σ' := (15, [some (.ref 76)], [], (iq_sh l, (iq_upI q1 76 38 ((q1 76 38) - (1 : Int32))), J, X))) (fun _ => rfl) ?_
  obtain ⟨I2, eI2, h⟩ := ir_letG h
  rw [← eI2]
  clear eI2
  refine iq_G_go (k := 5) (σ' := (22, [some (.ref 76)], [.int ((I2 76 39) - (1 : Int32)), .ref 76], (iq_sh l, I2, J, X))) (fun _ => rfl) ?_
  refine iq_G_go (k := 1) (σ' := (25, [some (.ref 76)], [], (iq_sh l, (iq_upI I2 76 39 ((I2 76 39) - (1 : Int32))), J, X))) (fun _ => rfl) ?_
  obtain ⟨I3, eI3, h⟩ := ir_letG h
  rw [← eI3]
  clear eI3
  refine iq_G_go (k := 1) (σ' := (26, [some (.ref 76)], [.ref 76], (iq_sh l, I3, J, X))) (fun _ => rfl) ?_
  obtain ⟨q4, hq4, h⟩ := iq_bnd h
  refine iq_G_call (σ' := (29, [some (.ref 76)], [], (iq_sh l, q4.1, q4.2, X))) (fun _ => rfl) (zM_goes_ok l  I3 J X hq4) rfl rfl ?_
  cases h
  exact iq_G_ret (fun _ => rfl)
set_option maxRecDepth 100000 in
theorem zM_expression_84_ok (l : Nat)  (x1 : Int32) (s1 : Int32) (I : iq_I) (J : iq_J) (X : iq_X)  {q : (Int32 × iq_I × iq_J) ⊕ (iq_I × iq_J)} (h : zM_expression_84 x1 s1 I J = some q) (r : iq_R × iq_M) (hc : ∀ v, q = .inl v → iq_Gg 5 232 (29, [some (.ref 76), some (.int v.1), none], [], (iq_sh l, v.2.1, v.2.2, X)) r) (hx : ∀ w, q = .inr w → iq_Gg 5 232 (325, [some (.ref 76), none, none], [], (iq_sh l, w.1, w.2, X)) r) : iq_Gg 5 232 (84, [some (.ref 76), some (.int x1), none], [.int s1, .ref 76], (iq_sh l, I, J, X)) r := by
  unfold zM_expression_84 at h
  obtain ⟨q9, hq9, h⟩ := iq_bnd h
  refine iq_G_call (σ' := (87, [some (.ref 76), some (.int x1), none], [], (iq_sh l, q9, J, X))) (fun _ => rfl) (zM_waitsFor_ok l s1 I J X hq9) rfl rfl ?_
  refine iq_G_go (k := 5) (σ' := (96, [some (.ref 76), some (.int x1), none], [.int (0 : Int32), .int (q9 76 39), .ref 97], (iq_sh l, q9, J, X))) (fun _ => rfl) ?_
  obtain ⟨hc_, h⟩ := iq_itn h
  refine iq_G_pos (c := iq_in (q9 76 39) 9 ∧ ((0 : Int32) = 0 ∨ (0 : Int32) = 1)) (σ1 := (97, [some (.ref 76), some (.int x1), none], [], (iq_sh l, (iq_upI q9 97 (Int32.toNatClampNeg (q9 76 39)) (0 : Int32)), J, X))) (fun _ => rfl) hc_ ?_
  obtain ⟨I10, eI10, h⟩ := ir_letG h
  rw [← eI10]
  clear eI10
  refine iq_G_go (k := 1) (σ' := (98, [some (.ref 76), some (.int x1), none], [.ref 76], (iq_sh l, I10, J, X))) (fun _ => rfl) ?_
  obtain ⟨q11, hq11, h⟩ := iq_bnd h
  refine iq_G_call (σ' := (101, [some (.ref 76), some (.int x1), none], [], (iq_sh l, q11.1, q11.2, X))) (fun _ => rfl) (zM_goes_ok l  I10 J X hq11) rfl rfl ?_
  refine iq_G_go (k := 2) (σ' := (103, [some (.ref 76), some (.int x1), none], [.int (1 : Int32), .ref 76], (iq_sh l, q11.1, q11.2, X))) (fun _ => rfl) ?_
  obtain ⟨q12, hq12, h⟩ := iq_bnd h
  refine iq_G_call (σ' := (106, [some (.ref 76), some (.int x1), none], [], (iq_sh l, q12.1, q12.2, X))) (fun _ => rfl) (zM_operand_ok l (1 : Int32) q11.1 q11.2 X hq12) rfl rfl ?_
  refine iq_G_go (k := 1) (σ' := (322, [some (.ref 76), some (.int x1), none], [], (iq_sh l, q12.1, q12.2, X))) (fun _ => rfl) ?_
  refine iq_G_go (k := 1) (σ' := (29, [some (.ref 76), some (.int x1), none], [], (iq_sh l, q12.1, q12.2, X))) (fun _ => rfl) ?_
  cases h
  exact iq_G_fg (L := [some (.ref 76), some (.int x1), none]) (And.intro rfl (And.intro rfl trivial)) (hc (x1, q12.1, q12.2) rfl)
set_option maxRecDepth 100000 in
theorem zM_expression_69_ok (l : Nat)  (x1 : Int32) (x2 : Int32) (s1 : Int32) (I : iq_I) (J : iq_J) (X : iq_X)  {q : (Int32 × iq_I × iq_J) ⊕ (iq_I × iq_J)} (h : zM_expression_69 x1 x2 s1 I J = some q) (r : iq_R × iq_M) (hc : ∀ v, q = .inl v → iq_Gg 5 232 (29, [some (.ref 76), some (.int v.1), none], [], (iq_sh l, v.2.1, v.2.2, X)) r) (hx : ∀ w, q = .inr w → iq_Gg 5 232 (325, [some (.ref 76), none, none], [], (iq_sh l, w.1, w.2, X)) r) : iq_Gg 5 232 (69, [some (.ref 76), some (.int x1), some (.int x2)], [.int s1, .ref 76], (iq_sh l, I, J, X)) r := by
  unfold zM_expression_69 at h
  obtain ⟨q8, hq8, h⟩ := iq_bnd h
  refine iq_G_call (σ' := (72, [some (.ref 76), some (.int x1), some (.int x2)], [], (iq_sh l, q8, J, X))) (fun _ => rfl) (zM_drops_ok l s1 I J X hq8) rfl rfl ?_
  refine iq_G_go (k := 3) (σ' := (76, [some (.ref 76), some (.int x1), some (.int x2)], [.int (14 : Int32), .int x2, .ref 76], (iq_sh l, q8, J, X))) (fun _ => rfl) ?_
  rcases iq_ite h with ⟨hc_, h⟩ | ⟨hc_, h⟩
  · refine iq_G_pos (c := ¬ x2 = (14 : Int32)) (σ1 := (83, [some (.ref 76), some (.int x1), some (.int x2)], [.ref 76], (iq_sh l, q8, J, X))) (fun _ => rfl) hc_ ?_
    refine iq_G_go (k := 1) (σ' := (84, [some (.ref 76), some (.int x1), some (.int x2)], [.int (5 : Int32), .ref 76], (iq_sh l, q8, J, X))) (fun _ => rfl) ?_
    exact iq_G_fg (L := [some (.ref 76), some (.int x1), none]) (And.intro rfl (And.intro rfl trivial)) (zM_expression_84_ok l x1 (5 : Int32) q8 J X  h r hc hx)
  · refine iq_G_neg (c := ¬ x2 = (14 : Int32)) (σ1 := (79, [some (.ref 76), some (.int x1), some (.int x2)], [.ref 76], (iq_sh l, q8, J, X))) (fun _ => rfl) hc_ ?_
    refine iq_G_go (k := 2) (σ' := (84, [some (.ref 76), some (.int x1), some (.int x2)], [.int (4 : Int32), .ref 76], (iq_sh l, q8, J, X))) (fun _ => rfl) ?_
    exact iq_G_fg (L := [some (.ref 76), some (.int x1), none]) (And.intro rfl (And.intro rfl trivial)) (zM_expression_84_ok l x1 (4 : Int32) q8 J X  h r hc hx)
set_option maxRecDepth 100000 in
theorem zM_expression_57_ok (l : Nat)  (x1 : Int32) (x2 : Int32) (I : iq_I) (J : iq_J) (X : iq_X)  {q : (Int32 × iq_I × iq_J) ⊕ (iq_I × iq_J)} (h : zM_expression_57 x1 x2 I J = some q) (r : iq_R × iq_M) (hc : ∀ v, q = .inl v → iq_Gg 5 232 (29, [some (.ref 76), some (.int v.1), none], [], (iq_sh l, v.2.1, v.2.2, X)) r) (hx : ∀ w, q = .inr w → iq_Gg 5 232 (325, [some (.ref 76), none, none], [], (iq_sh l, w.1, w.2, X)) r) : iq_Gg 5 232 (57, [some (.ref 76), some (.int x1), some (.int x2)], [], (iq_sh l, I, J, X)) r := by
  unfold zM_expression_57 at h
  refine iq_G_go (k := 3) (σ' := (61, [some (.ref 76), some (.int x1), some (.int x2)], [.int (14 : Int32), .int x2, .ref 76], (iq_sh l, I, J, X))) (fun _ => rfl) ?_
  rcases iq_ite h with ⟨hc_, h⟩ | ⟨hc_, h⟩
  · refine iq_G_pos (c := ¬ x2 = (14 : Int32)) (σ1 := (68, [some (.ref 76), some (.int x1), some (.int x2)], [.ref 76], (iq_sh l, I, J, X))) (fun _ => rfl) hc_ ?_
    refine iq_G_go (k := 1) (σ' := (69, [some (.ref 76), some (.int x1), some (.int x2)], [.int (1 : Int32), .ref 76], (iq_sh l, I, J, X))) (fun _ => rfl) ?_
    exact iq_G_fg (L := [some (.ref 76), some (.int x1), some (.int x2)]) (And.intro rfl (And.intro rfl (And.intro rfl trivial))) (zM_expression_69_ok l x1 x2 (1 : Int32) I J X  h r hc hx)
  · refine iq_G_neg (c := ¬ x2 = (14 : Int32)) (σ1 := (64, [some (.ref 76), some (.int x1), some (.int x2)], [.ref 76], (iq_sh l, I, J, X))) (fun _ => rfl) hc_ ?_
    refine iq_G_go (k := 2) (σ' := (69, [some (.ref 76), some (.int x1), some (.int x2)], [.int (2 : Int32), .ref 76], (iq_sh l, I, J, X))) (fun _ => rfl) ?_
    exact iq_G_fg (L := [some (.ref 76), some (.int x1), some (.int x2)]) (And.intro rfl (And.intro rfl (And.intro rfl trivial))) (zM_expression_69_ok l x1 x2 (2 : Int32) I J X  h r hc hx)
set_option maxRecDepth 100000 in
theorem zM_expression_226_ok (l : Nat)  (x1 : Int32) (s1 : Int32) (I : iq_I) (J : iq_J) (X : iq_X)  {q : (Int32 × iq_I × iq_J) ⊕ (iq_I × iq_J)} (h : zM_expression_226 x1 s1 I J = some q) (r : iq_R × iq_M) (hc : ∀ v, q = .inl v → iq_Gg 5 232 (29, [some (.ref 76), some (.int v.1), none], [], (iq_sh l, v.2.1, v.2.2, X)) r) (hx : ∀ w, q = .inr w → iq_Gg 5 232 (325, [some (.ref 76), none, none], [], (iq_sh l, w.1, w.2, X)) r) : iq_Gg 5 232 (226, [some (.ref 76), some (.int x1), none], [.int s1, .ref 76], (iq_sh l, I, J, X)) r := by
  unfold zM_expression_226 at h
  obtain ⟨q17, hq17, h⟩ := iq_bnd h
  refine iq_G_call (σ' := (229, [some (.ref 76), some (.int x1), none], [], (iq_sh l, q17, J, X))) (fun _ => rfl) (zM_waitsFor_ok l s1 I J X hq17) rfl rfl ?_
  refine iq_G_go (k := 1) (σ' := (230, [some (.ref 76), some (.int x1), none], [.ref 76], (iq_sh l, q17, J, X))) (fun _ => rfl) ?_
  obtain ⟨q18, hq18, h⟩ := iq_bnd h
  refine iq_G_call (σ' := (233, [some (.ref 76), some (.int x1), none], [], (iq_sh l, q18.1, q18.2, X))) (fun _ => rfl) (zM_goes_ok l  q17 J X hq18) rfl rfl ?_
  refine iq_G_go (k := 2) (σ' := (235, [some (.ref 76), some (.int x1), none], [.int (0 : Int32), .ref 76], (iq_sh l, q18.1, q18.2, X))) (fun _ => rfl) ?_
  obtain ⟨q19, hq19, h⟩ := iq_bnd h
  refine iq_G_call (σ' := (238, [some (.ref 76), some (.int x1), none], [], (iq_sh l, q19.1, q19.2, X))) (fun _ => rfl) (zM_operand_ok l (0 : Int32) q18.1 q18.2 X hq19) rfl rfl ?_
  refine iq_G_go (k := 2) (σ' := (29, [some (.ref 76), some (.int x1), none], [], (iq_sh l, q19.1, q19.2, X))) (fun _ => rfl) ?_
  cases h
  exact iq_G_fg (L := [some (.ref 76), some (.int x1), none]) (And.intro rfl (And.intro rfl trivial)) (hc (x1, q19.1, q19.2) rfl)
set_option maxRecDepth 100000 in
theorem zM_expression_204_ok (l : Nat)  (x1 : Int32) (I : iq_I) (J : iq_J) (X : iq_X)  {q : (Int32 × iq_I × iq_J) ⊕ (iq_I × iq_J)} (h : zM_expression_204 x1 I J = some q) (r : iq_R × iq_M) (hc : ∀ v, q = .inl v → iq_Gg 5 232 (29, [some (.ref 76), some (.int v.1), none], [], (iq_sh l, v.2.1, v.2.2, X)) r) (hx : ∀ w, q = .inr w → iq_Gg 5 232 (325, [some (.ref 76), none, none], [], (iq_sh l, w.1, w.2, X)) r) : iq_Gg 5 232 (204, [some (.ref 76), some (.int x1), none], [], (iq_sh l, I, J, X)) r := by
  unfold zM_expression_204 at h
  refine iq_G_go (k := 2) (σ' := (206, [some (.ref 76), some (.int x1), none], [.int (5 : Int32), .ref 76], (iq_sh l, I, J, X))) (fun _ => rfl) ?_
  obtain ⟨q15, hq15, h⟩ := iq_bnd h
  refine iq_G_call (σ' := (209, [some (.ref 76), some (.int x1), none], [], (iq_sh l, q15, J, X))) (fun _ => rfl) (zM_drops_ok l (5 : Int32) I J X hq15) rfl rfl ?_
  refine iq_G_go (k := 3) (σ' := (213, [some (.ref 76), some (.int x1), none], [.int (43 : Int32), .ref 76, .ref 76], (iq_sh l, q15, J, X))) (fun _ => rfl) ?_
  obtain ⟨q16, hq16, h⟩ := iq_bnd h
  refine iq_G_call (σ' := (216, [some (.ref 76), some (.int x1), none], [.int q16, .ref 76], (iq_sh l, q15, J, X))) (fun _ => rfl) (zM_isSign_ok l (43 : Int32) q15 J X hq16) rfl rfl ?_
  rcases iq_ite h with ⟨hc_, h⟩ | ⟨hc_, h⟩
  · refine iq_G_pos (c := q16 = 0) (σ1 := (224, [some (.ref 76), some (.int x1), none], [.ref 76], (iq_sh l, q15, J, X))) (fun _ => rfl) hc_ ?_
    refine iq_G_go (k := 1) (σ' := (226, [some (.ref 76), some (.int x1), none], [.int (9 : Int32), .ref 76], (iq_sh l, q15, J, X))) (fun _ => rfl) ?_
    exact iq_G_fg (L := [some (.ref 76), some (.int x1), none]) (And.intro rfl (And.intro rfl trivial)) (zM_expression_226_ok l x1 (9 : Int32) q15 J X  h r hc hx)
  · refine iq_G_neg (c := q16 = 0) (σ1 := (219, [some (.ref 76), some (.int x1), none], [.ref 76], (iq_sh l, q15, J, X))) (fun _ => rfl) hc_ ?_
    refine iq_G_go (k := 2) (σ' := (226, [some (.ref 76), some (.int x1), none], [.int (8 : Int32), .ref 76], (iq_sh l, q15, J, X))) (fun _ => rfl) ?_
    exact iq_G_fg (L := [some (.ref 76), some (.int x1), none]) (And.intro rfl (And.intro rfl trivial)) (zM_expression_226_ok l x1 (8 : Int32) q15 J X  h r hc hx)
set_option maxRecDepth 100000 in
theorem zM_expression_282_ok (l : Nat)  (x1 : Int32) (s1 : Int32) (I : iq_I) (J : iq_J) (X : iq_X)  {q : (Int32 × iq_I × iq_J) ⊕ (iq_I × iq_J)} (h : zM_expression_282 x1 s1 I J = some q) (r : iq_R × iq_M) (hc : ∀ v, q = .inl v → iq_Gg 5 232 (29, [some (.ref 76), some (.int v.1), none], [], (iq_sh l, v.2.1, v.2.2, X)) r) (hx : ∀ w, q = .inr w → iq_Gg 5 232 (325, [some (.ref 76), none, none], [], (iq_sh l, w.1, w.2, X)) r) : iq_Gg 5 232 (282, [some (.ref 76), some (.int x1), none], [.int s1, .ref 76], (iq_sh l, I, J, X)) r := by
  unfold zM_expression_282 at h
  obtain ⟨q24, hq24, h⟩ := iq_bnd h
  refine iq_G_call (σ' := (285, [some (.ref 76), some (.int x1), none], [], (iq_sh l, q24, J, X))) (fun _ => rfl) (zM_waitsFor_ok l s1 I J X hq24) rfl rfl ?_
  refine iq_G_go (k := 1) (σ' := (286, [some (.ref 76), some (.int x1), none], [.ref 76], (iq_sh l, q24, J, X))) (fun _ => rfl) ?_
  obtain ⟨q25, hq25, h⟩ := iq_bnd h
  refine iq_G_call (σ' := (289, [some (.ref 76), some (.int x1), none], [], (iq_sh l, q25.1, q25.2, X))) (fun _ => rfl) (zM_goes_ok l  q24 J X hq25) rfl rfl ?_
  refine iq_G_go (k := 2) (σ' := (291, [some (.ref 76), some (.int x1), none], [.int (0 : Int32), .ref 76], (iq_sh l, q25.1, q25.2, X))) (fun _ => rfl) ?_
  obtain ⟨q26, hq26, h⟩ := iq_bnd h
  refine iq_G_call (σ' := (294, [some (.ref 76), some (.int x1), none], [], (iq_sh l, q26.1, q26.2, X))) (fun _ => rfl) (zM_operand_ok l (0 : Int32) q25.1 q25.2 X hq26) rfl rfl ?_
  refine iq_G_go (k := 2) (σ' := (29, [some (.ref 76), some (.int x1), none], [], (iq_sh l, q26.1, q26.2, X))) (fun _ => rfl) ?_
  cases h
  exact iq_G_fg (L := [some (.ref 76), some (.int x1), none]) (And.intro rfl (And.intro rfl trivial)) (hc (x1, q26.1, q26.2) rfl)
set_option maxRecDepth 100000 in
theorem zM_expression_259_ok (l : Nat)  (x1 : Int32) (I : iq_I) (J : iq_J) (X : iq_X)  {q : (Int32 × iq_I × iq_J) ⊕ (iq_I × iq_J)} (h : zM_expression_259 x1 I J = some q) (r : iq_R × iq_M) (hc : ∀ v, q = .inl v → iq_Gg 5 232 (29, [some (.ref 76), some (.int v.1), none], [], (iq_sh l, v.2.1, v.2.2, X)) r) (hx : ∀ w, q = .inr w → iq_Gg 5 232 (325, [some (.ref 76), none, none], [], (iq_sh l, w.1, w.2, X)) r) : iq_Gg 5 232 (259, [some (.ref 76), some (.int x1), none], [], (iq_sh l, I, J, X)) r := by
  unfold zM_expression_259 at h
  refine iq_G_go (k := 2) (σ' := (262, [some (.ref 76), some (.int x1), none], [.int (6 : Int32), .ref 76], (iq_sh l, I, J, X))) (fun _ => rfl) ?_
  obtain ⟨q22, hq22, h⟩ := iq_bnd h
  refine iq_G_call (σ' := (265, [some (.ref 76), some (.int x1), none], [], (iq_sh l, q22, J, X))) (fun _ => rfl) (zM_drops_ok l (6 : Int32) I J X hq22) rfl rfl ?_
  refine iq_G_go (k := 3) (σ' := (269, [some (.ref 76), some (.int x1), none], [.int (42 : Int32), .ref 76, .ref 76], (iq_sh l, q22, J, X))) (fun _ => rfl) ?_
  obtain ⟨q23, hq23, h⟩ := iq_bnd h
  refine iq_G_call (σ' := (272, [some (.ref 76), some (.int x1), none], [.int q23, .ref 76], (iq_sh l, q22, J, X))) (fun _ => rfl) (zM_isSign_ok l (42 : Int32) q22 J X hq23) rfl rfl ?_
  rcases iq_ite h with ⟨hc_, h⟩ | ⟨hc_, h⟩
  · refine iq_G_pos (c := q23 = 0) (σ1 := (280, [some (.ref 76), some (.int x1), none], [.ref 76], (iq_sh l, q22, J, X))) (fun _ => rfl) hc_ ?_
    refine iq_G_go (k := 1) (σ' := (282, [some (.ref 76), some (.int x1), none], [.int (11 : Int32), .ref 76], (iq_sh l, q22, J, X))) (fun _ => rfl) ?_
    exact iq_G_fg (L := [some (.ref 76), some (.int x1), none]) (And.intro rfl (And.intro rfl trivial)) (zM_expression_282_ok l x1 (11 : Int32) q22 J X  h r hc hx)
  · refine iq_G_neg (c := q23 = 0) (σ1 := (275, [some (.ref 76), some (.int x1), none], [.ref 76], (iq_sh l, q22, J, X))) (fun _ => rfl) hc_ ?_
    refine iq_G_go (k := 2) (σ' := (282, [some (.ref 76), some (.int x1), none], [.int (10 : Int32), .ref 76], (iq_sh l, q22, J, X))) (fun _ => rfl) ?_
    exact iq_G_fg (L := [some (.ref 76), some (.int x1), none]) (And.intro rfl (And.intro rfl trivial)) (zM_expression_282_ok l x1 (10 : Int32) q22 J X  h r hc hx)
set_option maxRecDepth 100000 in
theorem zM_expression_186_ok (l : Nat)  (x1 : Int32) (I : iq_I) (J : iq_J) (X : iq_X)  {q : (Int32 × iq_I × iq_J) ⊕ (iq_I × iq_J)} (h : zM_expression_186 x1 I J = some q) (r : iq_R × iq_M) (hc : ∀ v, q = .inl v → iq_Gg 5 232 (29, [some (.ref 76), some (.int v.1), none], [], (iq_sh l, v.2.1, v.2.2, X)) r) (hx : ∀ w, q = .inr w → iq_Gg 5 232 (325, [some (.ref 76), none, none], [], (iq_sh l, w.1, w.2, X)) r) : iq_Gg 5 232 (186, [some (.ref 76), some (.int x1), none], [], (iq_sh l, I, J, X)) r := by
  unfold zM_expression_186 at h
  refine iq_G_go (k := 2) (σ' := (189, [some (.ref 76), some (.int x1), none], [.int (43 : Int32), .ref 76], (iq_sh l, I, J, X))) (fun _ => rfl) ?_
  obtain ⟨q14, hq14, h⟩ := iq_bnd h
  refine iq_G_call (σ' := (192, [some (.ref 76), some (.int x1), none], [.int q14], (iq_sh l, I, J, X))) (fun _ => rfl) (zM_isSign_ok l (43 : Int32) I J X hq14) rfl rfl ?_
  rcases iq_ite h with ⟨hc_, h⟩ | ⟨hc_, h⟩
  · refine iq_G_pos (c := ¬ q14 = 0) (σ1 := (204, [some (.ref 76), some (.int x1), none], [], (iq_sh l, I, J, X))) (fun _ => rfl) hc_ ?_
    exact iq_G_fg (L := [some (.ref 76), some (.int x1), none]) (And.intro rfl (And.intro rfl trivial)) (zM_expression_204_ok l x1 I J X  h r hc hx)
  · refine iq_G_neg (c := ¬ q14 = 0) (σ1 := (195, [some (.ref 76), some (.int x1), none], [], (iq_sh l, I, J, X))) (fun _ => rfl) hc_ ?_
    refine iq_G_go (k := 2) (σ' := (198, [some (.ref 76), some (.int x1), none], [.int (45 : Int32), .ref 76], (iq_sh l, I, J, X))) (fun _ => rfl) ?_
    obtain ⟨q20, hq20, h⟩ := iq_bnd h
    refine iq_G_call (σ' := (201, [some (.ref 76), some (.int x1), none], [.int q20], (iq_sh l, I, J, X))) (fun _ => rfl) (zM_isSign_ok l (45 : Int32) I J X hq20) rfl rfl ?_
    rcases iq_ite h with ⟨hc_, h⟩ | ⟨hc_, h⟩
    · refine iq_G_pos (c := q20 = 0) (σ1 := (241, [some (.ref 76), some (.int x1), none], [], (iq_sh l, I, J, X))) (fun _ => rfl) hc_ ?_
      refine iq_G_go (k := 2) (σ' := (244, [some (.ref 76), some (.int x1), none], [.int (42 : Int32), .ref 76], (iq_sh l, I, J, X))) (fun _ => rfl) ?_
      obtain ⟨q21, hq21, h⟩ := iq_bnd h
      refine iq_G_call (σ' := (247, [some (.ref 76), some (.int x1), none], [.int q21], (iq_sh l, I, J, X))) (fun _ => rfl) (zM_isSign_ok l (42 : Int32) I J X hq21) rfl rfl ?_
      rcases iq_ite h with ⟨hc_, h⟩ | ⟨hc_, h⟩
      · refine iq_G_pos (c := ¬ q21 = 0) (σ1 := (259, [some (.ref 76), some (.int x1), none], [], (iq_sh l, I, J, X))) (fun _ => rfl) hc_ ?_
        exact iq_G_fg (L := [some (.ref 76), some (.int x1), none]) (And.intro rfl (And.intro rfl trivial)) (zM_expression_259_ok l x1 I J X  h r hc hx)
      · refine iq_G_neg (c := ¬ q21 = 0) (σ1 := (250, [some (.ref 76), some (.int x1), none], [], (iq_sh l, I, J, X))) (fun _ => rfl) hc_ ?_
        refine iq_G_go (k := 2) (σ' := (253, [some (.ref 76), some (.int x1), none], [.int (47 : Int32), .ref 76], (iq_sh l, I, J, X))) (fun _ => rfl) ?_
        obtain ⟨q27, hq27, h⟩ := iq_bnd h
        refine iq_G_call (σ' := (256, [some (.ref 76), some (.int x1), none], [.int q27], (iq_sh l, I, J, X))) (fun _ => rfl) (zM_isSign_ok l (47 : Int32) I J X hq27) rfl rfl ?_
        rcases iq_ite h with ⟨hc_, h⟩ | ⟨hc_, h⟩
        · refine iq_G_pos (c := q27 = 0) (σ1 := (297, [some (.ref 76), some (.int x1), none], [], (iq_sh l, I, J, X))) (fun _ => rfl) hc_ ?_
          refine iq_G_go (k := 2) (σ' := (300, [some (.ref 76), some (.int x1), none], [.int (41 : Int32), .ref 76], (iq_sh l, I, J, X))) (fun _ => rfl) ?_
          obtain ⟨q28, hq28, h⟩ := iq_bnd h
          refine iq_G_call (σ' := (303, [some (.ref 76), some (.int x1), none], [.int q28], (iq_sh l, I, J, X))) (fun _ => rfl) (zM_isSign_ok l (41 : Int32) I J X hq28) rfl rfl ?_
          rcases iq_ite h with ⟨hc_, h⟩ | ⟨hc_, h⟩
          · refine iq_G_pos (c := q28 = 0) (σ1 := (320, [some (.ref 76), some (.int x1), none], [], (iq_sh l, I, J, X))) (fun _ => rfl) hc_ ?_
            refine iq_G_go (k := 3) (σ' := (29, [some (.ref 76), some (.int (0 : Int32)), none], [], (iq_sh l, I, J, X))) (fun _ => rfl) ?_
            cases h
            exact iq_G_fg (L := [some (.ref 76), some (.int (0 : Int32)), none]) (And.intro rfl (And.intro rfl trivial)) (hc ((0 : Int32), I, J) rfl)
          · refine iq_G_neg (c := q28 = 0) (σ1 := (306, [some (.ref 76), some (.int x1), none], [], (iq_sh l, I, J, X))) (fun _ => rfl) hc_ ?_
            refine iq_G_go (k := 1) (σ' := (307, [some (.ref 76), some (.int x1), none], [.ref 76], (iq_sh l, I, J, X))) (fun _ => rfl) ?_
            obtain ⟨q29, hq29, h⟩ := iq_bnd h
            refine iq_G_call (σ' := (310, [some (.ref 76), some (.int x1), none], [.int q29], (iq_sh l, I, J, X))) (fun _ => rfl) (zM_isOpened_ok l  I J X hq29) rfl rfl ?_
            rcases iq_ite h with ⟨hc_, h⟩ | ⟨hc_, h⟩
            · refine iq_G_pos (c := q29 = 0) (σ1 := (320, [some (.ref 76), some (.int x1), none], [], (iq_sh l, I, J, X))) (fun _ => rfl) hc_ ?_
              refine iq_G_go (k := 3) (σ' := (29, [some (.ref 76), some (.int (0 : Int32)), none], [], (iq_sh l, I, J, X))) (fun _ => rfl) ?_
              cases h
              exact iq_G_fg (L := [some (.ref 76), some (.int (0 : Int32)), none]) (And.intro rfl (And.intro rfl trivial)) (hc ((0 : Int32), I, J) rfl)
            · refine iq_G_neg (c := q29 = 0) (σ1 := (313, [some (.ref 76), some (.int x1), none], [], (iq_sh l, I, J, X))) (fun _ => rfl) hc_ ?_
              refine iq_G_go (k := 1) (σ' := (314, [some (.ref 76), some (.int x1), none], [.ref 76], (iq_sh l, I, J, X))) (fun _ => rfl) ?_
              obtain ⟨q30, hq30, h⟩ := iq_bnd h
              refine iq_G_call (σ' := (317, [some (.ref 76), some (.int x1), none], [], (iq_sh l, q30.1, q30.2, X))) (fun _ => rfl) (zM_closes_ok l  I J X hq30) rfl rfl ?_
              refine iq_G_go (k := 2) (σ' := (29, [some (.ref 76), some (.int x1), none], [], (iq_sh l, q30.1, q30.2, X))) (fun _ => rfl) ?_
              cases h
              exact iq_G_fg (L := [some (.ref 76), some (.int x1), none]) (And.intro rfl (And.intro rfl trivial)) (hc (x1, q30.1, q30.2) rfl)
        · refine iq_G_neg (c := q27 = 0) (σ1 := (259, [some (.ref 76), some (.int x1), none], [], (iq_sh l, I, J, X))) (fun _ => rfl) hc_ ?_
          exact iq_G_fg (L := [some (.ref 76), some (.int x1), none]) (And.intro rfl (And.intro rfl trivial)) (zM_expression_259_ok l x1 I J X  h r hc hx)
    · refine iq_G_neg (c := q20 = 0) (σ1 := (204, [some (.ref 76), some (.int x1), none], [], (iq_sh l, I, J, X))) (fun _ => rfl) hc_ ?_
      exact iq_G_fg (L := [some (.ref 76), some (.int x1), none]) (And.intro rfl (And.intro rfl trivial)) (zM_expression_204_ok l x1 I J X  h r hc hx)
set_option maxRecDepth 100000 in
theorem zM_expression_161_ok (l : Nat)  (x1 : Int32) (s1 : Int32) (I : iq_I) (J : iq_J) (X : iq_X)  {q : (Int32 × iq_I × iq_J) ⊕ (iq_I × iq_J)} (h : zM_expression_161 x1 s1 I J = some q) (r : iq_R × iq_M) (hc : ∀ v, q = .inl v → iq_Gg 5 232 (29, [some (.ref 76), some (.int v.1), none], [], (iq_sh l, v.2.1, v.2.2, X)) r) (hx : ∀ w, q = .inr w → iq_Gg 5 232 (325, [some (.ref 76), none, none], [], (iq_sh l, w.1, w.2, X)) r) : iq_Gg 5 232 (161, [some (.ref 76), some (.int x1), none], [.int s1, .ref 76], (iq_sh l, I, J, X)) r := by
  unfold zM_expression_161 at h
  obtain ⟨q33, hq33, h⟩ := iq_bnd h
  refine iq_G_call (σ' := (164, [some (.ref 76), some (.int x1), none], [], (iq_sh l, q33, J, X))) (fun _ => rfl) (zM_waitsFor_ok l s1 I J X hq33) rfl rfl ?_
  refine iq_G_go (k := 5) (σ' := (173, [some (.ref 76), some (.int x1), none], [.int (1 : Int32), .int (q33 76 39), .ref 97], (iq_sh l, q33, J, X))) (fun _ => rfl) ?_
  obtain ⟨hc_, h⟩ := iq_itn h
  refine iq_G_pos (c := iq_in (q33 76 39) 9 ∧ ((1 : Int32) = 0 ∨ (1 : Int32) = 1)) (σ1 := (174, [some (.ref 76), some (.int x1), none], [], (iq_sh l, (iq_upI q33 97 (Int32.toNatClampNeg (q33 76 39)) (1 : Int32)), J, X))) (fun _ => rfl) hc_ ?_
  obtain ⟨I34, eI34, h⟩ := ir_letG h
  rw [← eI34]
  clear eI34
  refine iq_G_go (k := 1) (σ' := (175, [some (.ref 76), some (.int x1), none], [.ref 76], (iq_sh l, I34, J, X))) (fun _ => rfl) ?_
  obtain ⟨q35, hq35, h⟩ := iq_bnd h
  refine iq_G_call (σ' := (178, [some (.ref 76), some (.int x1), none], [], (iq_sh l, q35.1, q35.2, X))) (fun _ => rfl) (zM_goes_ok l  I34 J X hq35) rfl rfl ?_
  refine iq_G_go (k := 2) (σ' := (180, [some (.ref 76), some (.int x1), none], [.int (0 : Int32), .ref 76], (iq_sh l, q35.1, q35.2, X))) (fun _ => rfl) ?_
  obtain ⟨q36, hq36, h⟩ := iq_bnd h
  refine iq_G_call (σ' := (183, [some (.ref 76), some (.int x1), none], [], (iq_sh l, q36.1, q36.2, X))) (fun _ => rfl) (zM_operand_ok l (0 : Int32) q35.1 q35.2 X hq36) rfl rfl ?_
  refine iq_G_go (k := 2) (σ' := (29, [some (.ref 76), some (.int x1), none], [], (iq_sh l, q36.1, q36.2, X))) (fun _ => rfl) ?_
  cases h
  exact iq_G_fg (L := [some (.ref 76), some (.int x1), none]) (And.intro rfl (And.intro rfl trivial)) (hc (x1, q36.1, q36.2) rfl)
set_option maxRecDepth 100000 in
theorem zM_expression_127_ok (l : Nat)  (x1 : Int32) (I : iq_I) (J : iq_J) (X : iq_X)  {q : (Int32 × iq_I × iq_J) ⊕ (iq_I × iq_J)} (h : zM_expression_127 x1 I J = some q) (r : iq_R × iq_M) (hc : ∀ v, q = .inl v → iq_Gg 5 232 (29, [some (.ref 76), some (.int v.1), none], [], (iq_sh l, v.2.1, v.2.2, X)) r) (hx : ∀ w, q = .inr w → iq_Gg 5 232 (325, [some (.ref 76), none, none], [], (iq_sh l, w.1, w.2, X)) r) : iq_Gg 5 232 (127, [some (.ref 76), some (.int x1), none], [], (iq_sh l, I, J, X)) r := by
  unfold zM_expression_127 at h
  refine iq_G_go (k := 4) (σ' := (135, [some (.ref 76), some (.int x1), none], [.int (I 76 39), .ref 97], (iq_sh l, I, J, X))) (fun _ => rfl) ?_
  obtain ⟨hc_, h⟩ := iq_itn h
  refine iq_G_pos (c := iq_in (I 76 39) 9) (σ1 := (136, [some (.ref 76), some (.int x1), none], [.int (I 97 (Int32.toNatClampNeg (I 76 39)))], (iq_sh l, I, J, X))) (fun _ => rfl) hc_ ?_
  rcases iq_ite h with ⟨hc_, h⟩ | ⟨hc_, h⟩
  · refine iq_G_pos (c := ¬ (I 97 (Int32.toNatClampNeg (I 76 39))) = 0) (σ1 := (186, [some (.ref 76), some (.int x1), none], [], (iq_sh l, I, J, X))) (fun _ => rfl) hc_ ?_
    exact iq_G_fg (L := [some (.ref 76), some (.int x1), none]) (And.intro rfl (And.intro rfl trivial)) (zM_expression_186_ok l x1 I J X  h r hc hx)
  · refine iq_G_neg (c := ¬ (I 97 (Int32.toNatClampNeg (I 76 39))) = 0) (σ1 := (139, [some (.ref 76), some (.int x1), none], [], (iq_sh l, I, J, X))) (fun _ => rfl) hc_ ?_
    refine iq_G_go (k := 2) (σ' := (141, [some (.ref 76), some (.int x1), none], [.int (4 : Int32), .ref 76], (iq_sh l, I, J, X))) (fun _ => rfl) ?_
    obtain ⟨q31, hq31, h⟩ := iq_bnd h
    refine iq_G_call (σ' := (144, [some (.ref 76), some (.int x1), none], [], (iq_sh l, q31, J, X))) (fun _ => rfl) (zM_drops_ok l (4 : Int32) I J X hq31) rfl rfl ?_
    refine iq_G_go (k := 3) (σ' := (148, [some (.ref 76), some (.int x1), none], [.int (60 : Int32), .ref 76, .ref 76], (iq_sh l, q31, J, X))) (fun _ => rfl) ?_
    obtain ⟨q32, hq32, h⟩ := iq_bnd h
    refine iq_G_call (σ' := (151, [some (.ref 76), some (.int x1), none], [.int q32, .ref 76], (iq_sh l, q31, J, X))) (fun _ => rfl) (zM_isSign_ok l (60 : Int32) q31 J X hq32) rfl rfl ?_
    rcases iq_ite h with ⟨hc_, h⟩ | ⟨hc_, h⟩
    · refine iq_G_pos (c := q32 = 0) (σ1 := (159, [some (.ref 76), some (.int x1), none], [.ref 76], (iq_sh l, q31, J, X))) (fun _ => rfl) hc_ ?_
      refine iq_G_go (k := 1) (σ' := (161, [some (.ref 76), some (.int x1), none], [.int (7 : Int32), .ref 76], (iq_sh l, q31, J, X))) (fun _ => rfl) ?_
      exact iq_G_fg (L := [some (.ref 76), some (.int x1), none]) (And.intro rfl (And.intro rfl trivial)) (zM_expression_161_ok l x1 (7 : Int32) q31 J X  h r hc hx)
    · refine iq_G_neg (c := q32 = 0) (σ1 := (154, [some (.ref 76), some (.int x1), none], [.ref 76], (iq_sh l, q31, J, X))) (fun _ => rfl) hc_ ?_
      refine iq_G_go (k := 2) (σ' := (161, [some (.ref 76), some (.int x1), none], [.int (6 : Int32), .ref 76], (iq_sh l, q31, J, X))) (fun _ => rfl) ?_
      exact iq_G_fg (L := [some (.ref 76), some (.int x1), none]) (And.intro rfl (And.intro rfl trivial)) (zM_expression_161_ok l x1 (6 : Int32) q31 J X  h r hc hx)
set_option maxRecDepth 100000 in
theorem zM_expression_l29_bok (l : Nat)   (X : iq_X) (x1 : Int32) (I : iq_I) (J : iq_J) {q : (Int32 × iq_I × iq_J) ⊕ (iq_I × iq_J)} (h : zM_expression_l29_b  x1 I J = some q) (r : iq_R × iq_M) (hc : ∀ v, q = .inl v → iq_Gg 5 232 (29, [some (.ref 76), some (.int v.1), none], [], (iq_sh l, v.2.1, v.2.2, X)) r) (hx : ∀ w, q = .inr w → iq_Gg 5 232 (325, [some (.ref 76), none, none], [], (iq_sh l, w.1, w.2, X)) r) : iq_Gg 5 232 (29, [some (.ref 76), some (.int x1), none], [], (iq_sh l, I, J, X)) r := by
  unfold zM_expression_l29_b at h
  refine iq_G_go (k := 1) (σ' := (30, [some (.ref 76), some (.int x1), none], [.int x1], (iq_sh l, I, J, X))) (fun _ => rfl) ?_
  rcases iq_ite h with ⟨hc_, h⟩ | ⟨hc_, h⟩
  · refine iq_G_pos (c := x1 = 0) (σ1 := (325, [some (.ref 76), some (.int x1), none], [], (iq_sh l, I, J, X))) (fun _ => rfl) hc_ ?_
    cases h
    exact iq_G_fg (L := [some (.ref 76), none, none]) (And.intro rfl trivial) (hx (I, J) rfl)
  · refine iq_G_neg (c := x1 = 0) (σ1 := (33, [some (.ref 76), some (.int x1), none], [], (iq_sh l, I, J, X))) (fun _ => rfl) hc_ ?_
    refine iq_G_go (k := 1) (σ' := (34, [some (.ref 76), some (.int x1), none], [.ref 76], (iq_sh l, I, J, X))) (fun _ => rfl) ?_
    obtain ⟨q6, hq6, h⟩ := iq_bnd h
    refine iq_G_call (σ' := (37, [some (.ref 76), some (.int x1), none], [.int q6], (iq_sh l, I, J, X))) (fun _ => rfl) (zM_isGood_ok l  I J X hq6) rfl rfl ?_
    rcases iq_ite h with ⟨hc_, h⟩ | ⟨hc_, h⟩
    · refine iq_G_pos (c := q6 = 0) (σ1 := (325, [some (.ref 76), some (.int x1), none], [], (iq_sh l, I, J, X))) (fun _ => rfl) hc_ ?_
      cases h
      exact iq_G_fg (L := [some (.ref 76), none, none]) (And.intro rfl trivial) (hx (I, J) rfl)
    · refine iq_G_neg (c := q6 = 0) (σ1 := (40, [some (.ref 76), some (.int x1), none], [], (iq_sh l, I, J, X))) (fun _ => rfl) hc_ ?_
      refine iq_G_go (k := 1) (σ' := (41, [some (.ref 76), some (.int x1), none], [.ref 76], (iq_sh l, I, J, X))) (fun _ => rfl) ?_
      obtain ⟨q7, hq7, h⟩ := iq_bnd h
      refine iq_G_call (σ' := (44, [some (.ref 76), some (.int x1), none], [.int q7], (iq_sh l, I, J, X))) (fun _ => rfl) (zM_knownWord_ok l  I J X hq7) rfl rfl ?_
      refine iq_G_go (k := 3) (σ' := (48, [some (.ref 76), some (.int x1), some (.int q7)], [.int (14 : Int32), .int q7], (iq_sh l, I, J, X))) (fun _ => rfl) ?_
      rcases iq_ite h with ⟨hc_, h⟩ | ⟨hc_, h⟩
      · refine iq_G_pos (c := q7 = (14 : Int32)) (σ1 := (57, [some (.ref 76), some (.int x1), some (.int q7)], [], (iq_sh l, I, J, X))) (fun _ => rfl) hc_ ?_
        exact iq_G_fg (L := [some (.ref 76), some (.int x1), some (.int q7)]) (And.intro rfl (And.intro rfl (And.intro rfl trivial))) (zM_expression_57_ok l x1 q7 I J X  h r hc hx)
      · refine iq_G_neg (c := q7 = (14 : Int32)) (σ1 := (51, [some (.ref 76), some (.int x1), some (.int q7)], [], (iq_sh l, I, J, X))) (fun _ => rfl) hc_ ?_
        refine iq_G_go (k := 2) (σ' := (54, [some (.ref 76), some (.int x1), some (.int q7)], [.int (15 : Int32), .int q7], (iq_sh l, I, J, X))) (fun _ => rfl) ?_
        rcases iq_ite h with ⟨hc_, h⟩ | ⟨hc_, h⟩
        · refine iq_G_pos (c := ¬ q7 = (15 : Int32)) (σ1 := (109, [some (.ref 76), some (.int x1), some (.int q7)], [], (iq_sh l, I, J, X))) (fun _ => rfl) hc_ ?_
          refine iq_G_go (k := 2) (σ' := (112, [some (.ref 76), some (.int x1), some (.int q7)], [.int (60 : Int32), .ref 76], (iq_sh l, I, J, X))) (fun _ => rfl) ?_
          obtain ⟨q13, hq13, h⟩ := iq_bnd h
          refine iq_G_call (σ' := (115, [some (.ref 76), some (.int x1), some (.int q7)], [.int q13], (iq_sh l, I, J, X))) (fun _ => rfl) (zM_isSign_ok l (60 : Int32) I J X hq13) rfl rfl ?_
          rcases iq_ite h with ⟨hc_, h⟩ | ⟨hc_, h⟩
          · refine iq_G_pos (c := ¬ q13 = 0) (σ1 := (127, [some (.ref 76), some (.int x1), some (.int q7)], [], (iq_sh l, I, J, X))) (fun _ => rfl) hc_ ?_
            exact iq_G_fg (L := [some (.ref 76), some (.int x1), none]) (And.intro rfl (And.intro rfl trivial)) (zM_expression_127_ok l x1 I J X  h r hc hx)
          · refine iq_G_neg (c := ¬ q13 = 0) (σ1 := (118, [some (.ref 76), some (.int x1), some (.int q7)], [], (iq_sh l, I, J, X))) (fun _ => rfl) hc_ ?_
            refine iq_G_go (k := 2) (σ' := (121, [some (.ref 76), some (.int x1), some (.int q7)], [.int (61 : Int32), .ref 76], (iq_sh l, I, J, X))) (fun _ => rfl) ?_
            obtain ⟨q37, hq37, h⟩ := iq_bnd h
            refine iq_G_call (σ' := (124, [some (.ref 76), some (.int x1), some (.int q7)], [.int q37], (iq_sh l, I, J, X))) (fun _ => rfl) (zM_isSign_ok l (61 : Int32) I J X hq37) rfl rfl ?_
            rcases iq_ite h with ⟨hc_, h⟩ | ⟨hc_, h⟩
            · refine iq_G_pos (c := q37 = 0) (σ1 := (186, [some (.ref 76), some (.int x1), some (.int q7)], [], (iq_sh l, I, J, X))) (fun _ => rfl) hc_ ?_
              exact iq_G_fg (L := [some (.ref 76), some (.int x1), none]) (And.intro rfl (And.intro rfl trivial)) (zM_expression_186_ok l x1 I J X  h r hc hx)
            · refine iq_G_neg (c := q37 = 0) (σ1 := (127, [some (.ref 76), some (.int x1), some (.int q7)], [], (iq_sh l, I, J, X))) (fun _ => rfl) hc_ ?_
              exact iq_G_fg (L := [some (.ref 76), some (.int x1), none]) (And.intro rfl (And.intro rfl trivial)) (zM_expression_127_ok l x1 I J X  h r hc hx)
        · refine iq_G_neg (c := ¬ q7 = (15 : Int32)) (σ1 := (57, [some (.ref 76), some (.int x1), some (.int q7)], [], (iq_sh l, I, J, X))) (fun _ => rfl) hc_ ?_
          exact iq_G_fg (L := [some (.ref 76), some (.int x1), some (.int q7)]) (And.intro rfl (And.intro rfl (And.intro rfl trivial))) (zM_expression_57_ok l x1 q7 I J X  h r hc hx)
set_option maxRecDepth 100000 in
theorem zM_expression_l29_ok (l : Nat)   (X : iq_X) {n : Nat} {v : Int32 × iq_I × iq_J} {w : iq_I × iq_J} (h : zM_expression_l29  n v = some w) (r : iq_R × iq_M) (hq : iq_Gg 5 232 (325, [some (.ref 76), none, none], [], (iq_sh l, w.1, w.2, X)) r) : iq_Gg 5 232 (29, [some (.ref 76), some (.int v.1), none], [], (iq_sh l, v.2.1, v.2.2, X)) r :=
  iq_lp_ok (σ := fun v => (29, [some (.ref 76), some (.int v.1), none], [], (iq_sh l, v.2.1, v.2.2, X))) (Q := fun w r => iq_Gg 5 232 (325, [some (.ref 76), none, none], [], (iq_sh l, w.1, w.2, X)) r) (fun v q hv r h1 h2 => zM_expression_l29_bok l X v.1 v.2.1 v.2.2 hv r h1 h2) h r hq
set_option maxRecDepth 100000 in
theorem zM_expression_345_ok (l : Nat)   (I : iq_I) (J : iq_J) (X : iq_X)  {q : iq_I × iq_J} (h : zM_expression_345 I J = some q)  : iq_Gg 5 232 (345, [some (.ref 76), none, none], [], (iq_sh l, I, J, X)) (.inl none, (iq_sh l, q.1, q.2, X)) := by
  unfold zM_expression_345 at h
  refine iq_G_go (k := 2) (σ' := (347, [some (.ref 76), none, none], [.int (0 : Int32), .ref 76], (iq_sh l, I, J, X))) (fun _ => rfl) ?_
  obtain ⟨q40, hq40, h⟩ := iq_bnd h
  refine iq_G_call (σ' := (350, [some (.ref 76), none, none], [], (iq_sh l, q40, J, X))) (fun _ => rfl) (zM_drops_ok l (0 : Int32) I J X hq40) rfl rfl ?_
  refine iq_G_go (k := 2) (σ' := (352, [some (.ref 76), none, none], [.int (0 : Int32), .ref 76], (iq_sh l, q40, J, X))) (fun _ => rfl) ?_
  obtain ⟨q41, hq41, h⟩ := iq_bnd h
  refine iq_G_call (σ' := (355, [some (.ref 76), none, none], [], (iq_sh l, q41, J, X))) (fun _ => rfl) (zM_puts_ok l (0 : Int32) q40 J X hq41) rfl rfl ?_
  cases h
  exact iq_G_ret (fun _ => rfl)
set_option maxRecDepth 100000 in
theorem zM_expression_325_ok (l : Nat)   (I : iq_I) (J : iq_J) (X : iq_X)  {q : iq_I × iq_J} (h : zM_expression_325 I J = some q)  : iq_Gg 5 232 (325, [some (.ref 76), none, none], [], (iq_sh l, I, J, X)) (.inl none, (iq_sh l, q.1, q.2, X)) := by
  unfold zM_expression_325 at h
  refine iq_G_go (k := 1) (σ' := (326, [some (.ref 76), none, none], [.ref 76], (iq_sh l, I, J, X))) (fun _ => rfl) ?_
  obtain ⟨q39, hq39, h⟩ := iq_bnd h
  refine iq_G_call (σ' := (329, [some (.ref 76), none, none], [.int q39], (iq_sh l, I, J, X))) (fun _ => rfl) (zM_isGood_ok l  I J X hq39) rfl rfl ?_
  rcases iq_ite h with ⟨hc_, h⟩ | ⟨hc_, h⟩
  · refine iq_G_pos (c := q39 = 0) (σ1 := (345, [some (.ref 76), none, none], [], (iq_sh l, I, J, X))) (fun _ => rfl) hc_ ?_
    exact iq_G_fg (L := [some (.ref 76), none, none]) (And.intro rfl trivial) (zM_expression_345_ok l I J X  h )
  · refine iq_G_neg (c := q39 = 0) (σ1 := (332, [some (.ref 76), none, none], [], (iq_sh l, I, J, X))) (fun _ => rfl) hc_ ?_
    refine iq_G_go (k := 3) (σ' := (337, [some (.ref 76), none, none], [.int (1 : Int32), .int (I 76 39)], (iq_sh l, I, J, X))) (fun _ => rfl) ?_
    rcases iq_ite h with ⟨hc_, h⟩ | ⟨hc_, h⟩
    · refine iq_G_pos (c := (I 76 39) ≤ (1 : Int32)) (σ1 := (345, [some (.ref 76), none, none], [], (iq_sh l, I, J, X))) (fun _ => rfl) hc_ ?_
      exact iq_G_fg (L := [some (.ref 76), none, none]) (And.intro rfl trivial) (zM_expression_345_ok l I J X  h )
    · refine iq_G_neg (c := (I 76 39) ≤ (1 : Int32)) (σ1 := (340, [some (.ref 76), none, none], [], (iq_sh l, I, J, X))) (fun _ => rfl) hc_ ?_
      refine iq_G_go (k := 2) (σ' := (342, [some (.ref 76), none, none], [.int (1 : Int32), .ref 76], (iq_sh l, I, J, X))) (fun _ => rfl) ?_
      obtain ⟨q42, hq42, h⟩ := iq_bnd h
      refine iq_G_call (σ' := (345, [some (.ref 76), none, none], [], (iq_sh l, q42, J, X))) (fun _ => rfl) (zM_wrong_ok l (1 : Int32) I J X hq42) rfl rfl ?_
      exact iq_G_fg (L := [some (.ref 76), none, none]) (And.intro rfl trivial) (zM_expression_345_ok l q42 J X  h )
set_option maxRecDepth 100000 in
theorem zM_expression_ok (l : Nat)   (I : iq_I) (J : iq_J) (X : iq_X) {q : iq_I × iq_J} (h : zM_expression I J = some q) : iq_Cc 6 232 [.ref 76] (iq_sh l, I, J, X) (.inl none, (iq_sh l, q.1, q.2, X)) := by
  refine iq_Cc_of (L := [some (.ref 76), none, none]) rfl rfl ?_
  unfold zM_expression at h
  refine iq_G_go (k := 1) (σ' := (1, [some (.ref 76), none, none], [.ref 76], (iq_sh l, I, J, X))) (fun _ => rfl) ?_
  obtain ⟨q1, hq1, h⟩ := iq_bnd h
  refine iq_G_call (σ' := (4, [some (.ref 76), none, none], [.int q1], (iq_sh l, I, J, X))) (fun _ => rfl) (zM_isGood_ok l  I J X hq1) rfl rfl ?_
  rcases iq_ite h with ⟨hc_, h⟩ | ⟨hc_, h⟩
  · refine iq_G_pos (c := ¬ q1 = 0) (σ1 := (8, [some (.ref 76), none, none], [], (iq_sh l, I, J, X))) (fun _ => rfl) hc_ ?_
    refine iq_G_go (k := 2) (σ' := (10, [some (.ref 76), none, none], [.int (0 : Int32), .ref 76], (iq_sh l, I, J, X))) (fun _ => rfl) ?_
    refine iq_G_go (k := 1) (σ' := (13, [some (.ref 76), none, none], [], (iq_sh l, (iq_upI I 76 38 (0 : Int32)), J, X))) (fun _ => rfl) ?_
    obtain ⟨I2, eI2, h⟩ := ir_letG h
    rw [← eI2]
    clear eI2
    refine iq_G_go (k := 2) (σ' := (15, [some (.ref 76), none, none], [.int (0 : Int32), .ref 76], (iq_sh l, I2, J, X))) (fun _ => rfl) ?_
    refine iq_G_go (k := 1) (σ' := (18, [some (.ref 76), none, none], [], (iq_sh l, (iq_upI I2 76 39 (0 : Int32)), J, X))) (fun _ => rfl) ?_
    obtain ⟨I3, eI3, h⟩ := ir_letG h
    rw [← eI3]
    clear eI3
    refine iq_G_go (k := 1) (σ' := (19, [some (.ref 76), none, none], [.ref 76], (iq_sh l, I3, J, X))) (fun _ => rfl) ?_
    obtain ⟨q4, hq4, h⟩ := iq_bnd h
    refine iq_G_call (σ' := (22, [some (.ref 76), none, none], [], (iq_sh l, q4, J, X))) (fun _ => rfl) (zM_deeper_ok l  I3 J X hq4) rfl rfl ?_
    refine iq_G_go (k := 2) (σ' := (24, [some (.ref 76), none, none], [.int (1 : Int32), .ref 76], (iq_sh l, q4, J, X))) (fun _ => rfl) ?_
    obtain ⟨q5, hq5, h⟩ := iq_bnd h
    refine iq_G_call (σ' := (27, [some (.ref 76), none, none], [], (iq_sh l, q5.1, q5.2, X))) (fun _ => rfl) (zM_operand_ok l (1 : Int32) q4 J X hq5) rfl rfl ?_
    refine iq_G_go (k := 2) (σ' := (29, [some (.ref 76), some (.int (1 : Int32)), none], [], (iq_sh l, q5.1, q5.2, X))) (fun _ => rfl) ?_
    obtain ⟨w38, hw38, h⟩ := iq_bnd h
    refine iq_G_fg (L := [some (.ref 76), some (.int (1 : Int32)), none]) (And.intro rfl (And.intro rfl trivial)) ?_
    refine zM_expression_l29_ok l X hw38 _ ?_
    show iq_Gg 5 232 (325, [some (.ref 76), none, none], [], (iq_sh l, w38.1, w38.2, X)) _
    exact iq_G_fg (L := [some (.ref 76), none, none]) (And.intro rfl trivial) (zM_expression_325_ok l w38.1 w38.2 X  h )
  · refine iq_G_neg (c := ¬ q1 = 0) (σ1 := (7, [some (.ref 76), none, none], [], (iq_sh l, I, J, X))) (fun _ => rfl) hc_ ?_
    cases h
    exact iq_G_ret (fun _ => rfl)

