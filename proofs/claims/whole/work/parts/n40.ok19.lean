/-! ===== the abstract machine does the same (printed by wip/whole/emitall.py, split.py) ===== -/
set_option maxRecDepth 100000 in
theorem zM_line_311_ok (l : Nat)   (I : iq_I) (J : iq_J) (X : iq_X)  {q : iq_I × iq_J} (h : zM_line_311 I J = some q)  : iq_Gg 6 237 (311, [some (.ref 76), none, none], [], (iq_sh l, I, J, X)) (.inl none, (iq_sh l, q.1, q.2, X)) := by
  unfold zM_line_311 at h
  refine iq_G_go (k := 3) (σ' := (315, [some (.ref 76), none, none], [.int (59 : Int32), .ref 76, .ref 76], (iq_sh l, I, J, X))) (fun _ => rfl) ?_
  obtain ⟨q3, hq3, h⟩ := iq_bnd h
  refine iq_G_call (σ' := (318, [some (.ref 76), none, none], [.int q3, .ref 76], (iq_sh l, I, J, X))) (fun _ => rfl) (zM_isSign_ok l (59 : Int32) I J X hq3) rfl rfl ?_
  obtain ⟨q4, hq4, h⟩ := iq_bnd h
  refine iq_G_call (σ' := (321, [some (.ref 76), none, none], [], (iq_sh l, q4.1, q4.2, X))) (fun _ => rfl) (zM_need_ok l q3 I J X hq4) rfl rfl ?_
  cases h
  exact iq_G_ret (fun _ => rfl)
set_option maxRecDepth 100000 in
theorem zM_line_279_ok (l : Nat)   (I : iq_I) (J : iq_J) (X : iq_X)  {q : iq_I × iq_J} (h : zM_line_279 I J = some q)  : iq_Gg 6 237 (279, [some (.ref 76), none, none], [], (iq_sh l, I, J, X)) (.inl none, (iq_sh l, q.1, q.2, X)) := by
  unfold zM_line_279 at h
  refine iq_G_go (k := 1) (σ' := (280, [some (.ref 76), none, none], [.ref 76], (iq_sh l, I, J, X))) (fun _ => rfl) ?_
  obtain ⟨q5, hq5, h⟩ := iq_bnd h
  refine iq_G_call (σ' := (283, [some (.ref 76), none, none], [.int q5], (iq_sh l, I, J, X))) (fun _ => rfl) (zM_isGood_ok l  I J X hq5) rfl rfl ?_
  rcases iq_ite h with ⟨hc_, h⟩ | ⟨hc_, h⟩
  · refine iq_G_pos (c := ¬ q5 = 0) (σ1 := (287, [some (.ref 76), none, none], [], (iq_sh l, I, J, X))) (fun _ => rfl) hc_ ?_
    refine iq_G_go (k := 1) (σ' := (288, [some (.ref 76), none, none], [.ref 76], (iq_sh l, I, J, X))) (fun _ => rfl) ?_
    obtain ⟨q6, hq6, h⟩ := iq_bnd h
    refine iq_G_call (σ' := (291, [some (.ref 76), none, none], [], (iq_sh l, q6.1, q6.2, X))) (fun _ => rfl) (zM_goes_ok l  I J X hq6) rfl rfl ?_
    refine iq_G_go (k := 3) (σ' := (296, [some (.ref 76), none, none], [.int (q6.1 76 37), .ref 76], (iq_sh l, q6.1, q6.2, X))) (fun _ => rfl) ?_
    refine iq_G_go (k := 1) (σ' := (299, [some (.ref 76), none, none], [], (iq_sh l, (iq_upI q6.1 76 34 (q6.1 76 37)), q6.2, X))) (fun _ => rfl) ?_
    obtain ⟨I7, eI7, h⟩ := ir_letG h
    rw [← eI7]
    clear eI7
    refine iq_G_go (k := 1) (σ' := (300, [some (.ref 76), none, none], [.ref 76], (iq_sh l, I7, q6.2, X))) (fun _ => rfl) ?_
    obtain ⟨q8, hq8, h⟩ := iq_bnd h
    refine iq_G_call (σ' := (303, [some (.ref 76), none, none], [], (iq_sh l, q8.1, q8.2, X))) (fun _ => rfl) (zM_expression_ok l  I7 q6.2 X hq8) rfl rfl ?_
    refine iq_G_go (k := 1) (σ' := (311, [some (.ref 76), none, none], [], (iq_sh l, q8.1, q8.2, X))) (fun _ => rfl) ?_
    exact iq_G_fg (L := [some (.ref 76), none, none]) (And.intro rfl trivial) (zM_line_311_ok l q8.1 q8.2 X  h )
  · refine iq_G_neg (c := ¬ q5 = 0) (σ1 := (286, [some (.ref 76), none, none], [], (iq_sh l, I, J, X))) (fun _ => rfl) hc_ ?_
    cases h
    exact iq_G_ret (fun _ => rfl)
set_option maxRecDepth 100000 in
theorem zM_line_218_ok (l : Nat)   (I : iq_I) (J : iq_J) (X : iq_X)  {q : iq_I × iq_J} (h : zM_line_218 I J = some q)  : iq_Gg 6 237 (218, [some (.ref 76), none, none], [], (iq_sh l, I, J, X)) (.inl none, (iq_sh l, q.1, q.2, X)) := by
  unfold zM_line_218 at h
  refine iq_G_go (k := 1) (σ' := (219, [some (.ref 76), none, none], [.ref 76], (iq_sh l, I, J, X))) (fun _ => rfl) ?_
  obtain ⟨q10, hq10, h⟩ := iq_bnd h
  refine iq_G_call (σ' := (222, [some (.ref 76), none, none], [.int q10], (iq_sh l, I, J, X))) (fun _ => rfl) (zM_isGood_ok l  I J X hq10) rfl rfl ?_
  rcases iq_ite h with ⟨hc_, h⟩ | ⟨hc_, h⟩
  · refine iq_G_pos (c := ¬ q10 = 0) (σ1 := (226, [some (.ref 76), none, none], [], (iq_sh l, I, J, X))) (fun _ => rfl) hc_ ?_
    refine iq_G_go (k := 1) (σ' := (227, [some (.ref 76), none, none], [.ref 76], (iq_sh l, I, J, X))) (fun _ => rfl) ?_
    obtain ⟨q11, hq11, h⟩ := iq_bnd h
    refine iq_G_call (σ' := (230, [some (.ref 76), none, none], [], (iq_sh l, q11.1, q11.2, X))) (fun _ => rfl) (zM_goes_ok l  I J X hq11) rfl rfl ?_
    refine iq_G_go (k := 6) (σ' := (242, [some (.ref 76), none, none], [.int (q11.1 76 37), .int (q11.1 76 32), .ref 92], (iq_sh l, q11.1, q11.2, X))) (fun _ => rfl) ?_
    obtain ⟨hc_, h⟩ := iq_itn h
    refine iq_G_pos (c := iq_in (q11.1 76 32) 4) (σ1 := (243, [some (.ref 76), none, none], [], (iq_sh l, (iq_upI q11.1 92 (Int32.toNatClampNeg (q11.1 76 32)) (q11.1 76 37)), q11.2, X))) (fun _ => rfl) hc_ ?_
    obtain ⟨I12, eI12, h⟩ := ir_letG h
    rw [← eI12]
    clear eI12
    refine iq_G_go (k := 5) (σ' := (250, [some (.ref 76), none, none], [.int ((I12 76 32) + (1 : Int32)), .ref 76], (iq_sh l, I12, q11.2, X))) (fun _ => rfl) ?_
    refine iq_G_go (k := 1) (σ' := (253, [some (.ref 76), none, none], [], (iq_sh l, (iq_upI I12 76 32 ((I12 76 32) + (1 : Int32))), q11.2, X))) (fun _ => rfl) ?_
    obtain ⟨I13, eI13, h⟩ := ir_letG h
    rw [← eI13]
    clear eI13
    refine iq_G_go (k := 1) (σ' := (254, [some (.ref 76), none, none], [.ref 76], (iq_sh l, I13, q11.2, X))) (fun _ => rfl) ?_
    obtain ⟨q14, hq14, h⟩ := iq_bnd h
    refine iq_G_call (σ' := (257, [some (.ref 76), none, none], [], (iq_sh l, q14.1, q14.2, X))) (fun _ => rfl) (zM_expression_ok l  I13 q11.2 X hq14) rfl rfl ?_
    refine iq_G_go (k := 1) (σ' := (311, [some (.ref 76), none, none], [], (iq_sh l, q14.1, q14.2, X))) (fun _ => rfl) ?_
    exact iq_G_fg (L := [some (.ref 76), none, none]) (And.intro rfl trivial) (zM_line_311_ok l q14.1 q14.2 X  h )
  · refine iq_G_neg (c := ¬ q10 = 0) (σ1 := (225, [some (.ref 76), none, none], [], (iq_sh l, I, J, X))) (fun _ => rfl) hc_ ?_
    cases h
    exact iq_G_ret (fun _ => rfl)
set_option maxRecDepth 100000 in
theorem zM_line_146_ok (l : Nat)  (x2 : Int32) (I : iq_I) (J : iq_J) (X : iq_X)  {q : iq_I × iq_J} (h : zM_line_146 x2 I J = some q)  : iq_Gg 6 237 (146, [some (.ref 76), none, some (.int x2)], [], (iq_sh l, I, J, X)) (.inl none, (iq_sh l, q.1, q.2, X)) := by
  unfold zM_line_146 at h
  refine iq_G_go (k := 1) (σ' := (147, [some (.ref 76), none, some (.int x2)], [.ref 76], (iq_sh l, I, J, X))) (fun _ => rfl) ?_
  obtain ⟨q19, hq19, h⟩ := iq_bnd h
  refine iq_G_call (σ' := (150, [some (.ref 76), none, some (.int x2)], [.int q19], (iq_sh l, I, J, X))) (fun _ => rfl) (zM_isGood_ok l  I J X hq19) rfl rfl ?_
  rcases iq_ite h with ⟨hc_, h⟩ | ⟨hc_, h⟩
  · refine iq_G_pos (c := ¬ q19 = 0) (σ1 := (154, [some (.ref 76), none, some (.int x2)], [], (iq_sh l, I, J, X))) (fun _ => rfl) hc_ ?_
    refine iq_G_go (k := 7) (σ' := (163, [some (.ref 76), none, some (.int x2)], [.int ((I 76 36) ||| ((1 : Int32) <<< (x2 &&& 31))), .ref 76], (iq_sh l, I, J, X))) (fun _ => rfl) ?_
    refine iq_G_go (k := 1) (σ' := (166, [some (.ref 76), none, some (.int x2)], [], (iq_sh l, (iq_upI I 76 36 ((I 76 36) ||| ((1 : Int32) <<< (x2 &&& 31)))), J, X))) (fun _ => rfl) ?_
    obtain ⟨I20, eI20, h⟩ := ir_letG h
    rw [← eI20]
    clear eI20
    refine iq_G_go (k := 1) (σ' := (167, [some (.ref 76), none, some (.int x2)], [.ref 76], (iq_sh l, I20, J, X))) (fun _ => rfl) ?_
    obtain ⟨q21, hq21, h⟩ := iq_bnd h
    refine iq_G_call (σ' := (170, [some (.ref 76), none, some (.int x2)], [], (iq_sh l, q21.1, q21.2, X))) (fun _ => rfl) (zM_goes_ok l  I20 J X hq21) rfl rfl ?_
    refine iq_G_go (k := 6) (σ' := (179, [some (.ref 76), none, some (.int x2)], [.int (9 : Int32), .int (0 : Int32), .ref 76, .int x2, .ref 91], (iq_sh l, q21.1, q21.2, X))) (fun _ => rfl) ?_
    obtain ⟨q22, hq22, h⟩ := iq_bnd h
    refine iq_G_call (σ' := (182, [some (.ref 76), none, some (.int x2)], [.int q22.1, .int x2, .ref 91], (iq_sh l, q22.2.1, q22.2.2, X))) (fun _ => rfl) (zM_number_ok l (0 : Int32) (9 : Int32) q21.1 q21.2 X hq22) rfl rfl ?_
    obtain ⟨hc_, h⟩ := iq_itn h
    refine iq_G_pos (c := iq_in x2 8) (σ1 := (183, [some (.ref 76), none, some (.int x2)], [], (iq_sh l, (iq_upI q22.2.1 91 (Int32.toNatClampNeg x2) q22.1), q22.2.2, X))) (fun _ => rfl) hc_ ?_
    obtain ⟨I23, eI23, h⟩ := ir_letG h
    rw [← eI23]
    clear eI23
    refine iq_G_go (k := 1) (σ' := (311, [some (.ref 76), none, some (.int x2)], [], (iq_sh l, I23, q22.2.2, X))) (fun _ => rfl) ?_
    exact iq_G_fg (L := [some (.ref 76), none, none]) (And.intro rfl trivial) (zM_line_311_ok l I23 q22.2.2 X  h )
  · refine iq_G_neg (c := ¬ q19 = 0) (σ1 := (153, [some (.ref 76), none, some (.int x2)], [], (iq_sh l, I, J, X))) (fun _ => rfl) hc_ ?_
    cases h
    exact iq_G_ret (fun _ => rfl)
set_option maxRecDepth 100000 in
theorem zM_line_65_ok (l : Nat)   (I : iq_I) (J : iq_J) (X : iq_X)  {q : iq_I × iq_J} (h : zM_line_65 I J = some q)  : iq_Gg 6 237 (65, [some (.ref 76), none, none], [], (iq_sh l, I, J, X)) (.inl none, (iq_sh l, q.1, q.2, X)) := by
  unfold zM_line_65 at h
  refine iq_G_go (k := 5) (σ' := (72, [some (.ref 76), none, none], [.int ((I 76 29) + (1 : Int32)), .ref 76], (iq_sh l, I, J, X))) (fun _ => rfl) ?_
  refine iq_G_go (k := 1) (σ' := (75, [some (.ref 76), none, none], [], (iq_sh l, (iq_upI I 76 29 ((I 76 29) + (1 : Int32))), J, X))) (fun _ => rfl) ?_
  obtain ⟨I30, eI30, h⟩ := ir_letG h
  rw [← eI30]
  clear eI30
  refine iq_G_go (k := 1) (σ' := (311, [some (.ref 76), none, none], [], (iq_sh l, I30, J, X))) (fun _ => rfl) ?_
  exact iq_G_fg (L := [some (.ref 76), none, none]) (And.intro rfl trivial) (zM_line_311_ok l I30 J X  h )
set_option maxRecDepth 100000 in
theorem zM_line_25_ok (l : Nat)   (I : iq_I) (J : iq_J) (X : iq_X)  {q : iq_I × iq_J} (h : zM_line_25 I J = some q)  : iq_Gg 6 237 (25, [some (.ref 76), none, none], [], (iq_sh l, I, J, X)) (.inl none, (iq_sh l, q.1, q.2, X)) := by
  unfold zM_line_25 at h
  refine iq_G_go (k := 1) (σ' := (26, [some (.ref 76), none, none], [.ref 76], (iq_sh l, I, J, X))) (fun _ => rfl) ?_
  obtain ⟨q27, hq27, h⟩ := iq_bnd h
  refine iq_G_call (σ' := (29, [some (.ref 76), none, none], [.int q27], (iq_sh l, I, J, X))) (fun _ => rfl) (zM_isGood_ok l  I J X hq27) rfl rfl ?_
  rcases iq_ite h with ⟨hc_, h⟩ | ⟨hc_, h⟩
  · refine iq_G_pos (c := ¬ q27 = 0) (σ1 := (33, [some (.ref 76), none, none], [], (iq_sh l, I, J, X))) (fun _ => rfl) hc_ ?_
    refine iq_G_go (k := 1) (σ' := (34, [some (.ref 76), none, none], [.ref 76], (iq_sh l, I, J, X))) (fun _ => rfl) ?_
    obtain ⟨q28, hq28, h⟩ := iq_bnd h
    refine iq_G_call (σ' := (37, [some (.ref 76), none, none], [], (iq_sh l, q28.1, q28.2, X))) (fun _ => rfl) (zM_goes_ok l  I J X hq28) rfl rfl ?_
    refine iq_G_go (k := 1) (σ' := (38, [some (.ref 76), none, none], [.ref 76], (iq_sh l, q28.1, q28.2, X))) (fun _ => rfl) ?_
    obtain ⟨q29, hq29, h⟩ := iq_bnd h
    refine iq_G_call (σ' := (41, [some (.ref 76), none, none], [.int q29], (iq_sh l, q28.1, q28.2, X))) (fun _ => rfl) (zM_knownWord_ok l  q28.1 q28.2 X hq29) rfl rfl ?_
    refine iq_G_go (k := 1) (σ' := (43, [some (.ref 76), none, none], [.int (8 : Int32), .int q29], (iq_sh l, q28.1, q28.2, X))) (fun _ => rfl) ?_
    rcases iq_ite h with ⟨hc_, h⟩ | ⟨hc_, h⟩
    · refine iq_G_pos (c := ¬ q29 = (8 : Int32)) (σ1 := (65, [some (.ref 76), none, none], [], (iq_sh l, q28.1, q28.2, X))) (fun _ => rfl) hc_ ?_
      exact iq_G_fg (L := [some (.ref 76), none, none]) (And.intro rfl trivial) (zM_line_65_ok l q28.1 q28.2 X  h )
    · refine iq_G_neg (c := ¬ q29 = (8 : Int32)) (σ1 := (46, [some (.ref 76), none, none], [], (iq_sh l, q28.1, q28.2, X))) (fun _ => rfl) hc_ ?_
      refine iq_G_go (k := 8) (σ' := (58, [some (.ref 76), none, none], [.int ((q28.1 76 35) ||| ((1 : Int32) <<< ((q28.1 76 29) &&& 31))), .ref 76], (iq_sh l, q28.1, q28.2, X))) (fun _ => rfl) ?_
      refine iq_G_go (k := 1) (σ' := (61, [some (.ref 76), none, none], [], (iq_sh l, (iq_upI q28.1 76 35 ((q28.1 76 35) ||| ((1 : Int32) <<< ((q28.1 76 29) &&& 31)))), q28.2, X))) (fun _ => rfl) ?_
      obtain ⟨I31, eI31, h⟩ := ir_letG h
      rw [← eI31]
      clear eI31
      refine iq_G_go (k := 1) (σ' := (62, [some (.ref 76), none, none], [.ref 76], (iq_sh l, I31, q28.2, X))) (fun _ => rfl) ?_
      obtain ⟨q32, hq32, h⟩ := iq_bnd h
      refine iq_G_call (σ' := (65, [some (.ref 76), none, none], [], (iq_sh l, q32.1, q32.2, X))) (fun _ => rfl) (zM_goes_ok l  I31 q28.2 X hq32) rfl rfl ?_
      exact iq_G_fg (L := [some (.ref 76), none, none]) (And.intro rfl trivial) (zM_line_65_ok l q32.1 q32.2 X  h )
  · refine iq_G_neg (c := ¬ q27 = 0) (σ1 := (32, [some (.ref 76), none, none], [], (iq_sh l, I, J, X))) (fun _ => rfl) hc_ ?_
    cases h
    exact iq_G_ret (fun _ => rfl)
set_option maxRecDepth 100000 in
theorem zM_line_ok (l : Nat)   (I : iq_I) (J : iq_J) (X : iq_X) {q : iq_I × iq_J} (h : zM_line I J = some q) : iq_Cc 7 237 [.ref 76] (iq_sh l, I, J, X) (.inl none, (iq_sh l, q.1, q.2, X)) := by
  refine iq_Cc_of (L := [some (.ref 76), none, none]) rfl rfl ?_
  unfold zM_line at h
  refine iq_G_go (k := 1) (σ' := (1, [some (.ref 76), none, none], [.ref 76], (iq_sh l, I, J, X))) (fun _ => rfl) ?_
  obtain ⟨q1, hq1, h⟩ := iq_bnd h
  refine iq_G_call (σ' := (4, [some (.ref 76), none, none], [.int q1], (iq_sh l, I, J, X))) (fun _ => rfl) (zM_knownWord_ok l  I J X hq1) rfl rfl ?_
  refine iq_G_go (k := 3) (σ' := (8, [some (.ref 76), some (.int q1), none], [.int (7 : Int32), .int q1], (iq_sh l, I, J, X))) (fun _ => rfl) ?_
  rcases iq_ite h with ⟨hc_, h⟩ | ⟨hc_, h⟩
  · refine iq_G_pos (c := ¬ q1 = (7 : Int32)) (σ1 := (78, [some (.ref 76), some (.int q1), none], [], (iq_sh l, I, J, X))) (fun _ => rfl) hc_ ?_
    refine iq_G_go (k := 2) (σ' := (80, [some (.ref 76), some (.int q1), none], [.int (2 : Int32), .int q1], (iq_sh l, I, J, X))) (fun _ => rfl) ?_
    rcases iq_ite h with ⟨hc_, h⟩ | ⟨hc_, h⟩
    · refine iq_G_pos (c := ¬ q1 = (2 : Int32)) (σ1 := (90, [some (.ref 76), some (.int q1), none], [], (iq_sh l, I, J, X))) (fun _ => rfl) hc_ ?_
      refine iq_G_go (k := 2) (σ' := (93, [some (.ref 76), some (.int q1), none], [.int (9 : Int32), .int q1], (iq_sh l, I, J, X))) (fun _ => rfl) ?_
      rcases iq_ite h with ⟨hc_, h⟩ | ⟨hc_, h⟩
      · refine iq_G_pos (c := ¬ q1 = (9 : Int32)) (σ1 := (103, [some (.ref 76), some (.int q1), none], [], (iq_sh l, I, J, X))) (fun _ => rfl) hc_ ?_
        refine iq_G_go (k := 2) (σ' := (106, [some (.ref 76), some (.int q1), none], [.int (10 : Int32), .int q1], (iq_sh l, I, J, X))) (fun _ => rfl) ?_
        rcases iq_ite h with ⟨hc_, h⟩ | ⟨hc_, h⟩
        · refine iq_G_pos (c := ¬ q1 = (10 : Int32)) (σ1 := (186, [some (.ref 76), some (.int q1), none], [], (iq_sh l, I, J, X))) (fun _ => rfl) hc_ ?_
          refine iq_G_go (k := 2) (σ' := (189, [some (.ref 76), some (.int q1), none], [.int (11 : Int32), .int q1], (iq_sh l, I, J, X))) (fun _ => rfl) ?_
          rcases iq_ite h with ⟨hc_, h⟩ | ⟨hc_, h⟩
          · refine iq_G_pos (c := ¬ q1 = (11 : Int32)) (σ1 := (199, [some (.ref 76), some (.int q1), none], [], (iq_sh l, I, J, X))) (fun _ => rfl) hc_ ?_
            refine iq_G_go (k := 2) (σ' := (202, [some (.ref 76), some (.int q1), none], [.int (12 : Int32), .int q1], (iq_sh l, I, J, X))) (fun _ => rfl) ?_
            rcases iq_ite h with ⟨hc_, h⟩ | ⟨hc_, h⟩
            · refine iq_G_pos (c := ¬ q1 = (12 : Int32)) (σ1 := (260, [some (.ref 76), some (.int q1), none], [], (iq_sh l, I, J, X))) (fun _ => rfl) hc_ ?_
              refine iq_G_go (k := 2) (σ' := (263, [some (.ref 76), some (.int q1), none], [.int (13 : Int32), .int q1], (iq_sh l, I, J, X))) (fun _ => rfl) ?_
              rcases iq_ite h with ⟨hc_, h⟩ | ⟨hc_, h⟩
              · refine iq_G_pos (c := ¬ q1 = (13 : Int32)) (σ1 := (306, [some (.ref 76), some (.int q1), none], [], (iq_sh l, I, J, X))) (fun _ => rfl) hc_ ?_
                refine iq_G_go (k := 2) (σ' := (308, [some (.ref 76), some (.int q1), none], [.int (1 : Int32), .ref 76], (iq_sh l, I, J, X))) (fun _ => rfl) ?_
                obtain ⟨q2, hq2, h⟩ := iq_bnd h
                refine iq_G_call (σ' := (311, [some (.ref 76), some (.int q1), none], [], (iq_sh l, q2, J, X))) (fun _ => rfl) (zM_wrong_ok l (1 : Int32) I J X hq2) rfl rfl ?_
                exact iq_G_fg (L := [some (.ref 76), none, none]) (And.intro rfl trivial) (zM_line_311_ok l q2 J X  h )
              · refine iq_G_neg (c := ¬ q1 = (13 : Int32)) (σ1 := (266, [some (.ref 76), some (.int q1), none], [], (iq_sh l, I, J, X))) (fun _ => rfl) hc_ ?_
                refine iq_G_go (k := 3) (σ' := (271, [some (.ref 76), some (.int q1), none], [.int (-1 : Int32), .int (I 76 34)], (iq_sh l, I, J, X))) (fun _ => rfl) ?_
                rcases iq_ite h with ⟨hc_, h⟩ | ⟨hc_, h⟩
                · refine iq_G_pos (c := (I 76 34) = (-1 : Int32)) (σ1 := (279, [some (.ref 76), some (.int q1), none], [], (iq_sh l, I, J, X))) (fun _ => rfl) hc_ ?_
                  exact iq_G_fg (L := [some (.ref 76), none, none]) (And.intro rfl trivial) (zM_line_279_ok l I J X  h )
                · refine iq_G_neg (c := (I 76 34) = (-1 : Int32)) (σ1 := (274, [some (.ref 76), some (.int q1), none], [], (iq_sh l, I, J, X))) (fun _ => rfl) hc_ ?_
                  refine iq_G_go (k := 2) (σ' := (276, [some (.ref 76), some (.int q1), none], [.int (5 : Int32), .ref 76], (iq_sh l, I, J, X))) (fun _ => rfl) ?_
                  obtain ⟨q9, hq9, h⟩ := iq_bnd h
                  refine iq_G_call (σ' := (279, [some (.ref 76), some (.int q1), none], [], (iq_sh l, q9, J, X))) (fun _ => rfl) (zM_wrong_ok l (5 : Int32) I J X hq9) rfl rfl ?_
                  exact iq_G_fg (L := [some (.ref 76), none, none]) (And.intro rfl trivial) (zM_line_279_ok l q9 J X  h )
            · refine iq_G_neg (c := ¬ q1 = (12 : Int32)) (σ1 := (205, [some (.ref 76), some (.int q1), none], [], (iq_sh l, I, J, X))) (fun _ => rfl) hc_ ?_
              refine iq_G_go (k := 3) (σ' := (210, [some (.ref 76), some (.int q1), none], [.int (4 : Int32), .int (I 76 32)], (iq_sh l, I, J, X))) (fun _ => rfl) ?_
              rcases iq_ite h with ⟨hc_, h⟩ | ⟨hc_, h⟩
              · refine iq_G_pos (c := ¬ (I 76 32) = (4 : Int32)) (σ1 := (218, [some (.ref 76), some (.int q1), none], [], (iq_sh l, I, J, X))) (fun _ => rfl) hc_ ?_
                exact iq_G_fg (L := [some (.ref 76), none, none]) (And.intro rfl trivial) (zM_line_218_ok l I J X  h )
              · refine iq_G_neg (c := ¬ (I 76 32) = (4 : Int32)) (σ1 := (213, [some (.ref 76), some (.int q1), none], [], (iq_sh l, I, J, X))) (fun _ => rfl) hc_ ?_
                refine iq_G_go (k := 2) (σ' := (215, [some (.ref 76), some (.int q1), none], [.int (2 : Int32), .ref 76], (iq_sh l, I, J, X))) (fun _ => rfl) ?_
                obtain ⟨q15, hq15, h⟩ := iq_bnd h
                refine iq_G_call (σ' := (218, [some (.ref 76), some (.int q1), none], [], (iq_sh l, q15, J, X))) (fun _ => rfl) (zM_wrong_ok l (2 : Int32) I J X hq15) rfl rfl ?_
                exact iq_G_fg (L := [some (.ref 76), none, none]) (And.intro rfl trivial) (zM_line_218_ok l q15 J X  h )
          · refine iq_G_neg (c := ¬ q1 = (11 : Int32)) (σ1 := (192, [some (.ref 76), some (.int q1), none], [], (iq_sh l, I, J, X))) (fun _ => rfl) hc_ ?_
            refine iq_G_go (k := 1) (σ' := (193, [some (.ref 76), some (.int q1), none], [.ref 76], (iq_sh l, I, J, X))) (fun _ => rfl) ?_
            obtain ⟨q16, hq16, h⟩ := iq_bnd h
            refine iq_G_call (σ' := (196, [some (.ref 76), some (.int q1), none], [], (iq_sh l, q16.1, q16.2, X))) (fun _ => rfl) (zM_readsSaying_ok l  I J X hq16) rfl rfl ?_
            refine iq_G_go (k := 1) (σ' := (311, [some (.ref 76), some (.int q1), none], [], (iq_sh l, q16.1, q16.2, X))) (fun _ => rfl) ?_
            exact iq_G_fg (L := [some (.ref 76), none, none]) (And.intro rfl trivial) (zM_line_311_ok l q16.1 q16.2 X  h )
        · refine iq_G_neg (c := ¬ q1 = (10 : Int32)) (σ1 := (109, [some (.ref 76), some (.int q1), none], [], (iq_sh l, I, J, X))) (fun _ => rfl) hc_ ?_
          refine iq_G_go (k := 1) (σ' := (110, [some (.ref 76), some (.int q1), none], [.ref 76], (iq_sh l, I, J, X))) (fun _ => rfl) ?_
          obtain ⟨q17, hq17, h⟩ := iq_bnd h
          refine iq_G_call (σ' := (113, [some (.ref 76), some (.int q1), none], [], (iq_sh l, q17.1, q17.2, X))) (fun _ => rfl) (zM_goes_ok l  I J X hq17) rfl rfl ?_
          refine iq_G_go (k := 3) (σ' := (117, [some (.ref 76), some (.int q1), none], [.int (7 : Int32), .int (0 : Int32), .ref 76], (iq_sh l, q17.1, q17.2, X))) (fun _ => rfl) ?_
          obtain ⟨q18, hq18, h⟩ := iq_bnd h
          refine iq_G_call (σ' := (120, [some (.ref 76), some (.int q1), none], [.int q18.1], (iq_sh l, q18.2, q17.2, X))) (fun _ => rfl) (zM_numberHere_ok l (0 : Int32) (7 : Int32) q17.1 q17.2 X hq18) rfl rfl ?_
          rcases iq_ite h with ⟨hc_, h⟩ | ⟨hc_, h⟩
          · refine iq_G_pos (c := ¬ q18.1 = 0) (σ1 := (124, [some (.ref 76), some (.int q1), none], [], (iq_sh l, q18.2, q17.2, X))) (fun _ => rfl) hc_ ?_
            refine iq_G_go (k := 10) (σ' := (138, [some (.ref 76), some (.int q1), some (.int (q18.2 76 26))], [.int (1 : Int32), .int (((q18.2 76 36) >>> ((q18.2 76 26) &&& 31)) &&& (1 : Int32))], (iq_sh l, q18.2, q17.2, X))) (fun _ => rfl) ?_
            rcases iq_ite h with ⟨hc_, h⟩ | ⟨hc_, h⟩
            · refine iq_G_pos (c := ¬ (((q18.2 76 36) >>> ((q18.2 76 26) &&& 31)) &&& (1 : Int32)) = (1 : Int32)) (σ1 := (146, [some (.ref 76), some (.int q1), some (.int (q18.2 76 26))], [], (iq_sh l, q18.2, q17.2, X))) (fun _ => rfl) hc_ ?_
              exact iq_G_fg (L := [some (.ref 76), none, some (.int (q18.2 76 26))]) (And.intro rfl (And.intro rfl trivial)) (zM_line_146_ok l (q18.2 76 26) q18.2 q17.2 X  h )
            · refine iq_G_neg (c := ¬ (((q18.2 76 36) >>> ((q18.2 76 26) &&& 31)) &&& (1 : Int32)) = (1 : Int32)) (σ1 := (141, [some (.ref 76), some (.int q1), some (.int (q18.2 76 26))], [], (iq_sh l, q18.2, q17.2, X))) (fun _ => rfl) hc_ ?_
              refine iq_G_go (k := 2) (σ' := (143, [some (.ref 76), some (.int q1), some (.int (q18.2 76 26))], [.int (4 : Int32), .ref 76], (iq_sh l, q18.2, q17.2, X))) (fun _ => rfl) ?_
              obtain ⟨q24, hq24, h⟩ := iq_bnd h
              refine iq_G_call (σ' := (146, [some (.ref 76), some (.int q1), some (.int (q18.2 76 26))], [], (iq_sh l, q24, q17.2, X))) (fun _ => rfl) (zM_wrong_ok l (4 : Int32) q18.2 q17.2 X hq24) rfl rfl ?_
              exact iq_G_fg (L := [some (.ref 76), none, some (.int (q18.2 76 26))]) (And.intro rfl (And.intro rfl trivial)) (zM_line_146_ok l (q18.2 76 26) q24 q17.2 X  h )
          · refine iq_G_neg (c := ¬ q18.1 = 0) (σ1 := (123, [some (.ref 76), some (.int q1), none], [], (iq_sh l, q18.2, q17.2, X))) (fun _ => rfl) hc_ ?_
            cases h
            exact iq_G_ret (fun _ => rfl)
      · refine iq_G_neg (c := ¬ q1 = (9 : Int32)) (σ1 := (96, [some (.ref 76), some (.int q1), none], [], (iq_sh l, I, J, X))) (fun _ => rfl) hc_ ?_
        refine iq_G_go (k := 1) (σ' := (97, [some (.ref 76), some (.int q1), none], [.ref 76], (iq_sh l, I, J, X))) (fun _ => rfl) ?_
        obtain ⟨q25, hq25, h⟩ := iq_bnd h
        refine iq_G_call (σ' := (100, [some (.ref 76), some (.int q1), none], [], (iq_sh l, q25.1, q25.2, X))) (fun _ => rfl) (zM_readsArc_ok l  I J X hq25) rfl rfl ?_
        refine iq_G_go (k := 1) (σ' := (311, [some (.ref 76), some (.int q1), none], [], (iq_sh l, q25.1, q25.2, X))) (fun _ => rfl) ?_
        exact iq_G_fg (L := [some (.ref 76), none, none]) (And.intro rfl trivial) (zM_line_311_ok l q25.1 q25.2 X  h )
    · refine iq_G_neg (c := ¬ q1 = (2 : Int32)) (σ1 := (83, [some (.ref 76), some (.int q1), none], [], (iq_sh l, I, J, X))) (fun _ => rfl) hc_ ?_
      refine iq_G_go (k := 1) (σ' := (84, [some (.ref 76), some (.int q1), none], [.ref 76], (iq_sh l, I, J, X))) (fun _ => rfl) ?_
      obtain ⟨q26, hq26, h⟩ := iq_bnd h
      refine iq_G_call (σ' := (87, [some (.ref 76), some (.int q1), none], [], (iq_sh l, q26.1, q26.2, X))) (fun _ => rfl) (zM_readsWord_ok l  I J X hq26) rfl rfl ?_
      refine iq_G_go (k := 1) (σ' := (311, [some (.ref 76), some (.int q1), none], [], (iq_sh l, q26.1, q26.2, X))) (fun _ => rfl) ?_
      exact iq_G_fg (L := [some (.ref 76), none, none]) (And.intro rfl trivial) (zM_line_311_ok l q26.1 q26.2 X  h )
  · refine iq_G_neg (c := ¬ q1 = (7 : Int32)) (σ1 := (11, [some (.ref 76), some (.int q1), none], [], (iq_sh l, I, J, X))) (fun _ => rfl) hc_ ?_
    refine iq_G_go (k := 3) (σ' := (17, [some (.ref 76), some (.int q1), none], [.int (10 : Int32), .int (I 76 29)], (iq_sh l, I, J, X))) (fun _ => rfl) ?_
    rcases iq_ite h with ⟨hc_, h⟩ | ⟨hc_, h⟩
    · refine iq_G_pos (c := ¬ (I 76 29) = (10 : Int32)) (σ1 := (25, [some (.ref 76), some (.int q1), none], [], (iq_sh l, I, J, X))) (fun _ => rfl) hc_ ?_
      exact iq_G_fg (L := [some (.ref 76), none, none]) (And.intro rfl trivial) (zM_line_25_ok l I J X  h )
    · refine iq_G_neg (c := ¬ (I 76 29) = (10 : Int32)) (σ1 := (20, [some (.ref 76), some (.int q1), none], [], (iq_sh l, I, J, X))) (fun _ => rfl) hc_ ?_
      refine iq_G_go (k := 2) (σ' := (22, [some (.ref 76), some (.int q1), none], [.int (2 : Int32), .ref 76], (iq_sh l, I, J, X))) (fun _ => rfl) ?_
      obtain ⟨q33, hq33, h⟩ := iq_bnd h
      refine iq_G_call (σ' := (25, [some (.ref 76), some (.int q1), none], [], (iq_sh l, q33, J, X))) (fun _ => rfl) (zM_wrong_ok l (2 : Int32) I J X hq33) rfl rfl ?_
      exact iq_G_fg (L := [some (.ref 76), none, none]) (And.intro rfl trivial) (zM_line_25_ok l q33 J X  h )
set_option maxRecDepth 100000 in
theorem zM_copies_76_87_77_l2_bok (l : Nat)   (J : iq_J) (X : iq_X) (x3 : Int32) (I : iq_I) {q : (Int32 × iq_I) ⊕ (iq_I)} (h : zM_copies_76_87_77_l2_b  x3 I = some q) (r : iq_R × iq_M) (hc : ∀ v, q = .inl v → iq_Gg 0 203 (2, [none, some (.ref 87), some (.ref 77), some (.int v.1)], [], (iq_sh l, v.2, J, X)) r) (hx : ∀ w, q = .inr w → iq_Gg 0 203 (20, [none, none, none, none], [], (iq_sh l, w, J, X)) r) : iq_Gg 0 203 (2, [none, some (.ref 87), some (.ref 77), some (.int x3)], [], (iq_sh l, I, J, X)) r := by
  unfold zM_copies_76_87_77_l2_b at h
  refine iq_G_go (k := 3) (σ' := (5, [none, some (.ref 87), some (.ref 77), some (.int x3)], [.int (126 : Int32), .int x3], (iq_sh l, I, J, X))) (fun _ => rfl) ?_
  rcases iq_ite h with ⟨hc_, h⟩ | ⟨hc_, h⟩
  · refine iq_G_pos (c := (126 : Int32) ≤ x3) (σ1 := (20, [none, some (.ref 87), some (.ref 77), some (.int x3)], [], (iq_sh l, I, J, X))) (fun _ => rfl) hc_ ?_
    cases h
    exact iq_G_fg (L := [none, none, none, none]) trivial (hx I rfl)
  · refine iq_G_neg (c := (126 : Int32) ≤ x3) (σ1 := (8, [none, some (.ref 87), some (.ref 77), some (.int x3)], [], (iq_sh l, I, J, X))) (fun _ => rfl) hc_ ?_
    refine iq_G_go (k := 4) (σ' := (12, [none, some (.ref 87), some (.ref 77), some (.int x3)], [.int x3, .ref 87, .int x3, .ref 77], (iq_sh l, I, J, X))) (fun _ => rfl) ?_
    obtain ⟨hc_, h⟩ := iq_itn h
    refine iq_G_pos (c := iq_in x3 126) (σ1 := (13, [none, some (.ref 87), some (.ref 77), some (.int x3)], [.int (I 87 (Int32.toNatClampNeg x3)), .int x3, .ref 77], (iq_sh l, I, J, X))) (fun _ => rfl) hc_ ?_
    obtain ⟨hc_, h⟩ := iq_itn h
    refine iq_G_pos (c := iq_in x3 126) (σ1 := (14, [none, some (.ref 87), some (.ref 77), some (.int x3)], [], (iq_sh l, (iq_upI I 77 (Int32.toNatClampNeg x3) (I 87 (Int32.toNatClampNeg x3))), J, X))) (fun _ => rfl) hc_ ?_
    obtain ⟨I1, eI1, h⟩ := ir_letG h
    rw [← eI1]
    clear eI1
    refine iq_G_go (k := 2) (σ' := (2, [none, some (.ref 87), some (.ref 77), some (.int (x3 + (1 : Int32)))], [], (iq_sh l, I1, J, X))) (fun _ => rfl) ?_
    cases h
    exact iq_G_fg (L := [none, some (.ref 87), some (.ref 77), some (.int (x3 + (1 : Int32)))]) (And.intro rfl (And.intro rfl (And.intro rfl trivial))) (hc ((x3 + (1 : Int32)), I1) rfl)
set_option maxRecDepth 100000 in
theorem zM_copies_76_87_77_l2_ok (l : Nat)   (J : iq_J) (X : iq_X) {n : Nat} {v : Int32 × iq_I} {w : iq_I} (h : zM_copies_76_87_77_l2  n v = some w) (r : iq_R × iq_M) (hq : iq_Gg 0 203 (20, [none, none, none, none], [], (iq_sh l, w, J, X)) r) : iq_Gg 0 203 (2, [none, some (.ref 87), some (.ref 77), some (.int v.1)], [], (iq_sh l, v.2, J, X)) r :=
  iq_lp_ok (σ := fun v => (2, [none, some (.ref 87), some (.ref 77), some (.int v.1)], [], (iq_sh l, v.2, J, X))) (Q := fun w r => iq_Gg 0 203 (20, [none, none, none, none], [], (iq_sh l, w, J, X)) r) (fun v q hv r h1 h2 => zM_copies_76_87_77_l2_bok l J X v.1 v.2 hv r h1 h2) h r hq
set_option maxRecDepth 100000 in
theorem zM_copies_76_87_77_ok (l : Nat)   (I : iq_I) (J : iq_J) (X : iq_X) {q : iq_I} (h : zM_copies_76_87_77 I = some q) : iq_Cc 1 203 [.ref 76, .ref 87, .ref 77] (iq_sh l, I, J, X) (.inl none, (iq_sh l, q, J, X)) := by
  refine iq_Cc_of (L := [some (.ref 76), some (.ref 87), some (.ref 77), none]) rfl rfl ?_
  unfold zM_copies_76_87_77 at h
  refine iq_G_go (k := 2) (σ' := (2, [some (.ref 76), some (.ref 87), some (.ref 77), some (.int (0 : Int32))], [], (iq_sh l, I, J, X))) (fun _ => rfl) ?_
  obtain ⟨w2, hw2, h⟩ := iq_bnd h
  refine iq_G_fg (L := [none, some (.ref 87), some (.ref 77), some (.int (0 : Int32))]) (And.intro rfl (And.intro rfl (And.intro rfl trivial))) ?_
  refine zM_copies_76_87_77_l2_ok l J X hw2 _ ?_
  show iq_Gg 0 203 (20, [none, none, none, none], [], (iq_sh l, w2, J, X)) _
  cases h
  exact iq_G_ret (fun _ => rfl)
set_option maxRecDepth 100000 in
theorem zM_copies_76_88_78_l2_bok (l : Nat)   (J : iq_J) (X : iq_X) (x3 : Int32) (I : iq_I) {q : (Int32 × iq_I) ⊕ (iq_I)} (h : zM_copies_76_88_78_l2_b  x3 I = some q) (r : iq_R × iq_M) (hc : ∀ v, q = .inl v → iq_Gg 0 203 (2, [none, some (.ref 88), some (.ref 78), some (.int v.1)], [], (iq_sh l, v.2, J, X)) r) (hx : ∀ w, q = .inr w → iq_Gg 0 203 (20, [none, none, none, none], [], (iq_sh l, w, J, X)) r) : iq_Gg 0 203 (2, [none, some (.ref 88), some (.ref 78), some (.int x3)], [], (iq_sh l, I, J, X)) r := by
  unfold zM_copies_76_88_78_l2_b at h
  refine iq_G_go (k := 3) (σ' := (5, [none, some (.ref 88), some (.ref 78), some (.int x3)], [.int (14 : Int32), .int x3], (iq_sh l, I, J, X))) (fun _ => rfl) ?_
  rcases iq_ite h with ⟨hc_, h⟩ | ⟨hc_, h⟩
  · refine iq_G_pos (c := (14 : Int32) ≤ x3) (σ1 := (20, [none, some (.ref 88), some (.ref 78), some (.int x3)], [], (iq_sh l, I, J, X))) (fun _ => rfl) hc_ ?_
    cases h
    exact iq_G_fg (L := [none, none, none, none]) trivial (hx I rfl)
  · refine iq_G_neg (c := (14 : Int32) ≤ x3) (σ1 := (8, [none, some (.ref 88), some (.ref 78), some (.int x3)], [], (iq_sh l, I, J, X))) (fun _ => rfl) hc_ ?_
    refine iq_G_go (k := 4) (σ' := (12, [none, some (.ref 88), some (.ref 78), some (.int x3)], [.int x3, .ref 88, .int x3, .ref 78], (iq_sh l, I, J, X))) (fun _ => rfl) ?_
    obtain ⟨hc_, h⟩ := iq_itn h
    refine iq_G_pos (c := iq_in x3 14) (σ1 := (13, [none, some (.ref 88), some (.ref 78), some (.int x3)], [.int (I 88 (Int32.toNatClampNeg x3)), .int x3, .ref 78], (iq_sh l, I, J, X))) (fun _ => rfl) hc_ ?_
    obtain ⟨hc_, h⟩ := iq_itn h
    refine iq_G_pos (c := iq_in x3 14) (σ1 := (14, [none, some (.ref 88), some (.ref 78), some (.int x3)], [], (iq_sh l, (iq_upI I 78 (Int32.toNatClampNeg x3) (I 88 (Int32.toNatClampNeg x3))), J, X))) (fun _ => rfl) hc_ ?_
    obtain ⟨I1, eI1, h⟩ := ir_letG h
    rw [← eI1]
    clear eI1
    refine iq_G_go (k := 2) (σ' := (2, [none, some (.ref 88), some (.ref 78), some (.int (x3 + (1 : Int32)))], [], (iq_sh l, I1, J, X))) (fun _ => rfl) ?_
    cases h
    exact iq_G_fg (L := [none, some (.ref 88), some (.ref 78), some (.int (x3 + (1 : Int32)))]) (And.intro rfl (And.intro rfl (And.intro rfl trivial))) (hc ((x3 + (1 : Int32)), I1) rfl)
set_option maxRecDepth 100000 in
theorem zM_copies_76_88_78_l2_ok (l : Nat)   (J : iq_J) (X : iq_X) {n : Nat} {v : Int32 × iq_I} {w : iq_I} (h : zM_copies_76_88_78_l2  n v = some w) (r : iq_R × iq_M) (hq : iq_Gg 0 203 (20, [none, none, none, none], [], (iq_sh l, w, J, X)) r) : iq_Gg 0 203 (2, [none, some (.ref 88), some (.ref 78), some (.int v.1)], [], (iq_sh l, v.2, J, X)) r :=
  iq_lp_ok (σ := fun v => (2, [none, some (.ref 88), some (.ref 78), some (.int v.1)], [], (iq_sh l, v.2, J, X))) (Q := fun w r => iq_Gg 0 203 (20, [none, none, none, none], [], (iq_sh l, w, J, X)) r) (fun v q hv r h1 h2 => zM_copies_76_88_78_l2_bok l J X v.1 v.2 hv r h1 h2) h r hq
set_option maxRecDepth 100000 in
theorem zM_copies_76_88_78_ok (l : Nat)   (I : iq_I) (J : iq_J) (X : iq_X) {q : iq_I} (h : zM_copies_76_88_78 I = some q) : iq_Cc 1 203 [.ref 76, .ref 88, .ref 78] (iq_sh l, I, J, X) (.inl none, (iq_sh l, q, J, X)) := by
  refine iq_Cc_of (L := [some (.ref 76), some (.ref 88), some (.ref 78), none]) rfl rfl ?_
  unfold zM_copies_76_88_78 at h
  refine iq_G_go (k := 2) (σ' := (2, [some (.ref 76), some (.ref 88), some (.ref 78), some (.int (0 : Int32))], [], (iq_sh l, I, J, X))) (fun _ => rfl) ?_
  obtain ⟨w2, hw2, h⟩ := iq_bnd h
  refine iq_G_fg (L := [none, some (.ref 88), some (.ref 78), some (.int (0 : Int32))]) (And.intro rfl (And.intro rfl (And.intro rfl trivial))) ?_
  refine zM_copies_76_88_78_l2_ok l J X hw2 _ ?_
  show iq_Gg 0 203 (20, [none, none, none, none], [], (iq_sh l, w2, J, X)) _
  cases h
  exact iq_G_ret (fun _ => rfl)
set_option maxRecDepth 100000 in
theorem zM_copies_76_89_79_l2_bok (l : Nat)   (J : iq_J) (X : iq_X) (x3 : Int32) (I : iq_I) {q : (Int32 × iq_I) ⊕ (iq_I)} (h : zM_copies_76_89_79_l2_b  x3 I = some q) (r : iq_R × iq_M) (hc : ∀ v, q = .inl v → iq_Gg 0 203 (2, [none, some (.ref 89), some (.ref 79), some (.int v.1)], [], (iq_sh l, v.2, J, X)) r) (hx : ∀ w, q = .inr w → iq_Gg 0 203 (20, [none, none, none, none], [], (iq_sh l, w, J, X)) r) : iq_Gg 0 203 (2, [none, some (.ref 89), some (.ref 79), some (.int x3)], [], (iq_sh l, I, J, X)) r := by
  unfold zM_copies_76_89_79_l2_b at h
  refine iq_G_go (k := 3) (σ' := (5, [none, some (.ref 89), some (.ref 79), some (.int x3)], [.int (14 : Int32), .int x3], (iq_sh l, I, J, X))) (fun _ => rfl) ?_
  rcases iq_ite h with ⟨hc_, h⟩ | ⟨hc_, h⟩
  · refine iq_G_pos (c := (14 : Int32) ≤ x3) (σ1 := (20, [none, some (.ref 89), some (.ref 79), some (.int x3)], [], (iq_sh l, I, J, X))) (fun _ => rfl) hc_ ?_
    cases h
    exact iq_G_fg (L := [none, none, none, none]) trivial (hx I rfl)
  · refine iq_G_neg (c := (14 : Int32) ≤ x3) (σ1 := (8, [none, some (.ref 89), some (.ref 79), some (.int x3)], [], (iq_sh l, I, J, X))) (fun _ => rfl) hc_ ?_
    refine iq_G_go (k := 4) (σ' := (12, [none, some (.ref 89), some (.ref 79), some (.int x3)], [.int x3, .ref 89, .int x3, .ref 79], (iq_sh l, I, J, X))) (fun _ => rfl) ?_
    obtain ⟨hc_, h⟩ := iq_itn h
    refine iq_G_pos (c := iq_in x3 14) (σ1 := (13, [none, some (.ref 89), some (.ref 79), some (.int x3)], [.int (I 89 (Int32.toNatClampNeg x3)), .int x3, .ref 79], (iq_sh l, I, J, X))) (fun _ => rfl) hc_ ?_
    obtain ⟨hc_, h⟩ := iq_itn h
    refine iq_G_pos (c := iq_in x3 14) (σ1 := (14, [none, some (.ref 89), some (.ref 79), some (.int x3)], [], (iq_sh l, (iq_upI I 79 (Int32.toNatClampNeg x3) (I 89 (Int32.toNatClampNeg x3))), J, X))) (fun _ => rfl) hc_ ?_
    obtain ⟨I1, eI1, h⟩ := ir_letG h
    rw [← eI1]
    clear eI1
    refine iq_G_go (k := 2) (σ' := (2, [none, some (.ref 89), some (.ref 79), some (.int (x3 + (1 : Int32)))], [], (iq_sh l, I1, J, X))) (fun _ => rfl) ?_
    cases h
    exact iq_G_fg (L := [none, some (.ref 89), some (.ref 79), some (.int (x3 + (1 : Int32)))]) (And.intro rfl (And.intro rfl (And.intro rfl trivial))) (hc ((x3 + (1 : Int32)), I1) rfl)
set_option maxRecDepth 100000 in
theorem zM_copies_76_89_79_l2_ok (l : Nat)   (J : iq_J) (X : iq_X) {n : Nat} {v : Int32 × iq_I} {w : iq_I} (h : zM_copies_76_89_79_l2  n v = some w) (r : iq_R × iq_M) (hq : iq_Gg 0 203 (20, [none, none, none, none], [], (iq_sh l, w, J, X)) r) : iq_Gg 0 203 (2, [none, some (.ref 89), some (.ref 79), some (.int v.1)], [], (iq_sh l, v.2, J, X)) r :=
  iq_lp_ok (σ := fun v => (2, [none, some (.ref 89), some (.ref 79), some (.int v.1)], [], (iq_sh l, v.2, J, X))) (Q := fun w r => iq_Gg 0 203 (20, [none, none, none, none], [], (iq_sh l, w, J, X)) r) (fun v q hv r h1 h2 => zM_copies_76_89_79_l2_bok l J X v.1 v.2 hv r h1 h2) h r hq
set_option maxRecDepth 100000 in
theorem zM_copies_76_89_79_ok (l : Nat)   (I : iq_I) (J : iq_J) (X : iq_X) {q : iq_I} (h : zM_copies_76_89_79 I = some q) : iq_Cc 1 203 [.ref 76, .ref 89, .ref 79] (iq_sh l, I, J, X) (.inl none, (iq_sh l, q, J, X)) := by
  refine iq_Cc_of (L := [some (.ref 76), some (.ref 89), some (.ref 79), none]) rfl rfl ?_
  unfold zM_copies_76_89_79 at h
  refine iq_G_go (k := 2) (σ' := (2, [some (.ref 76), some (.ref 89), some (.ref 79), some (.int (0 : Int32))], [], (iq_sh l, I, J, X))) (fun _ => rfl) ?_
  obtain ⟨w2, hw2, h⟩ := iq_bnd h
  refine iq_G_fg (L := [none, some (.ref 89), some (.ref 79), some (.int (0 : Int32))]) (And.intro rfl (And.intro rfl (And.intro rfl trivial))) ?_
  refine zM_copies_76_89_79_l2_ok l J X hw2 _ ?_
  show iq_Gg 0 203 (20, [none, none, none, none], [], (iq_sh l, w2, J, X)) _
  cases h
  exact iq_G_ret (fun _ => rfl)
set_option maxRecDepth 100000 in
theorem zM_copies_76_90_80_l2_bok (l : Nat)   (J : iq_J) (X : iq_X) (x3 : Int32) (I : iq_I) {q : (Int32 × iq_I) ⊕ (iq_I)} (h : zM_copies_76_90_80_l2_b  x3 I = some q) (r : iq_R × iq_M) (hc : ∀ v, q = .inl v → iq_Gg 0 203 (2, [none, some (.ref 90), some (.ref 80), some (.int v.1)], [], (iq_sh l, v.2, J, X)) r) (hx : ∀ w, q = .inr w → iq_Gg 0 203 (20, [none, none, none, none], [], (iq_sh l, w, J, X)) r) : iq_Gg 0 203 (2, [none, some (.ref 90), some (.ref 80), some (.int x3)], [], (iq_sh l, I, J, X)) r := by
  unfold zM_copies_76_90_80_l2_b at h
  refine iq_G_go (k := 3) (σ' := (5, [none, some (.ref 90), some (.ref 80), some (.int x3)], [.int (80 : Int32), .int x3], (iq_sh l, I, J, X))) (fun _ => rfl) ?_
  rcases iq_ite h with ⟨hc_, h⟩ | ⟨hc_, h⟩
  · refine iq_G_pos (c := (80 : Int32) ≤ x3) (σ1 := (20, [none, some (.ref 90), some (.ref 80), some (.int x3)], [], (iq_sh l, I, J, X))) (fun _ => rfl) hc_ ?_
    cases h
    exact iq_G_fg (L := [none, none, none, none]) trivial (hx I rfl)
  · refine iq_G_neg (c := (80 : Int32) ≤ x3) (σ1 := (8, [none, some (.ref 90), some (.ref 80), some (.int x3)], [], (iq_sh l, I, J, X))) (fun _ => rfl) hc_ ?_
    refine iq_G_go (k := 4) (σ' := (12, [none, some (.ref 90), some (.ref 80), some (.int x3)], [.int x3, .ref 90, .int x3, .ref 80], (iq_sh l, I, J, X))) (fun _ => rfl) ?_
    obtain ⟨hc_, h⟩ := iq_itn h
    refine iq_G_pos (c := iq_in x3 80) (σ1 := (13, [none, some (.ref 90), some (.ref 80), some (.int x3)], [.int (I 90 (Int32.toNatClampNeg x3)), .int x3, .ref 80], (iq_sh l, I, J, X))) (fun _ => rfl) hc_ ?_
    obtain ⟨hc_, h⟩ := iq_itn h
    refine iq_G_pos (c := iq_in x3 80) (σ1 := (14, [none, some (.ref 90), some (.ref 80), some (.int x3)], [], (iq_sh l, (iq_upI I 80 (Int32.toNatClampNeg x3) (I 90 (Int32.toNatClampNeg x3))), J, X))) (fun _ => rfl) hc_ ?_
    obtain ⟨I1, eI1, h⟩ := ir_letG h
    rw [← eI1]
    clear eI1
    refine iq_G_go (k := 2) (σ' := (2, [none, some (.ref 90), some (.ref 80), some (.int (x3 + (1 : Int32)))], [], (iq_sh l, I1, J, X))) (fun _ => rfl) ?_
    cases h
    exact iq_G_fg (L := [none, some (.ref 90), some (.ref 80), some (.int (x3 + (1 : Int32)))]) (And.intro rfl (And.intro rfl (And.intro rfl trivial))) (hc ((x3 + (1 : Int32)), I1) rfl)
set_option maxRecDepth 100000 in
theorem zM_copies_76_90_80_l2_ok (l : Nat)   (J : iq_J) (X : iq_X) {n : Nat} {v : Int32 × iq_I} {w : iq_I} (h : zM_copies_76_90_80_l2  n v = some w) (r : iq_R × iq_M) (hq : iq_Gg 0 203 (20, [none, none, none, none], [], (iq_sh l, w, J, X)) r) : iq_Gg 0 203 (2, [none, some (.ref 90), some (.ref 80), some (.int v.1)], [], (iq_sh l, v.2, J, X)) r :=
  iq_lp_ok (σ := fun v => (2, [none, some (.ref 90), some (.ref 80), some (.int v.1)], [], (iq_sh l, v.2, J, X))) (Q := fun w r => iq_Gg 0 203 (20, [none, none, none, none], [], (iq_sh l, w, J, X)) r) (fun v q hv r h1 h2 => zM_copies_76_90_80_l2_bok l J X v.1 v.2 hv r h1 h2) h r hq
set_option maxRecDepth 100000 in
theorem zM_copies_76_90_80_ok (l : Nat)   (I : iq_I) (J : iq_J) (X : iq_X) {q : iq_I} (h : zM_copies_76_90_80 I = some q) : iq_Cc 1 203 [.ref 76, .ref 90, .ref 80] (iq_sh l, I, J, X) (.inl none, (iq_sh l, q, J, X)) := by
  refine iq_Cc_of (L := [some (.ref 76), some (.ref 90), some (.ref 80), none]) rfl rfl ?_
  unfold zM_copies_76_90_80 at h
  refine iq_G_go (k := 2) (σ' := (2, [some (.ref 76), some (.ref 90), some (.ref 80), some (.int (0 : Int32))], [], (iq_sh l, I, J, X))) (fun _ => rfl) ?_
  obtain ⟨w2, hw2, h⟩ := iq_bnd h
  refine iq_G_fg (L := [none, some (.ref 90), some (.ref 80), some (.int (0 : Int32))]) (And.intro rfl (And.intro rfl (And.intro rfl trivial))) ?_
  refine zM_copies_76_90_80_l2_ok l J X hw2 _ ?_
  show iq_Gg 0 203 (20, [none, none, none, none], [], (iq_sh l, w2, J, X)) _
  cases h
  exact iq_G_ret (fun _ => rfl)
set_option maxRecDepth 100000 in
theorem zM_copies_76_91_81_l2_bok (l : Nat)   (J : iq_J) (X : iq_X) (x3 : Int32) (I : iq_I) {q : (Int32 × iq_I) ⊕ (iq_I)} (h : zM_copies_76_91_81_l2_b  x3 I = some q) (r : iq_R × iq_M) (hc : ∀ v, q = .inl v → iq_Gg 0 203 (2, [none, some (.ref 91), some (.ref 81), some (.int v.1)], [], (iq_sh l, v.2, J, X)) r) (hx : ∀ w, q = .inr w → iq_Gg 0 203 (20, [none, none, none, none], [], (iq_sh l, w, J, X)) r) : iq_Gg 0 203 (2, [none, some (.ref 91), some (.ref 81), some (.int x3)], [], (iq_sh l, I, J, X)) r := by
  unfold zM_copies_76_91_81_l2_b at h
  refine iq_G_go (k := 3) (σ' := (5, [none, some (.ref 91), some (.ref 81), some (.int x3)], [.int (8 : Int32), .int x3], (iq_sh l, I, J, X))) (fun _ => rfl) ?_
  rcases iq_ite h with ⟨hc_, h⟩ | ⟨hc_, h⟩
  · refine iq_G_pos (c := (8 : Int32) ≤ x3) (σ1 := (20, [none, some (.ref 91), some (.ref 81), some (.int x3)], [], (iq_sh l, I, J, X))) (fun _ => rfl) hc_ ?_
    cases h
    exact iq_G_fg (L := [none, none, none, none]) trivial (hx I rfl)
  · refine iq_G_neg (c := (8 : Int32) ≤ x3) (σ1 := (8, [none, some (.ref 91), some (.ref 81), some (.int x3)], [], (iq_sh l, I, J, X))) (fun _ => rfl) hc_ ?_
    refine iq_G_go (k := 4) (σ' := (12, [none, some (.ref 91), some (.ref 81), some (.int x3)], [.int x3, .ref 91, .int x3, .ref 81], (iq_sh l, I, J, X))) (fun _ => rfl) ?_
    obtain ⟨hc_, h⟩ := iq_itn h
    refine iq_G_pos (c := iq_in x3 8) (σ1 := (13, [none, some (.ref 91), some (.ref 81), some (.int x3)], [.int (I 91 (Int32.toNatClampNeg x3)), .int x3, .ref 81], (iq_sh l, I, J, X))) (fun _ => rfl) hc_ ?_
    obtain ⟨hc_, h⟩ := iq_itn h
    refine iq_G_pos (c := iq_in x3 8) (σ1 := (14, [none, some (.ref 91), some (.ref 81), some (.int x3)], [], (iq_sh l, (iq_upI I 81 (Int32.toNatClampNeg x3) (I 91 (Int32.toNatClampNeg x3))), J, X))) (fun _ => rfl) hc_ ?_
    obtain ⟨I1, eI1, h⟩ := ir_letG h
    rw [← eI1]
    clear eI1
    refine iq_G_go (k := 2) (σ' := (2, [none, some (.ref 91), some (.ref 81), some (.int (x3 + (1 : Int32)))], [], (iq_sh l, I1, J, X))) (fun _ => rfl) ?_
    cases h
    exact iq_G_fg (L := [none, some (.ref 91), some (.ref 81), some (.int (x3 + (1 : Int32)))]) (And.intro rfl (And.intro rfl (And.intro rfl trivial))) (hc ((x3 + (1 : Int32)), I1) rfl)
set_option maxRecDepth 100000 in
theorem zM_copies_76_91_81_l2_ok (l : Nat)   (J : iq_J) (X : iq_X) {n : Nat} {v : Int32 × iq_I} {w : iq_I} (h : zM_copies_76_91_81_l2  n v = some w) (r : iq_R × iq_M) (hq : iq_Gg 0 203 (20, [none, none, none, none], [], (iq_sh l, w, J, X)) r) : iq_Gg 0 203 (2, [none, some (.ref 91), some (.ref 81), some (.int v.1)], [], (iq_sh l, v.2, J, X)) r :=
  iq_lp_ok (σ := fun v => (2, [none, some (.ref 91), some (.ref 81), some (.int v.1)], [], (iq_sh l, v.2, J, X))) (Q := fun w r => iq_Gg 0 203 (20, [none, none, none, none], [], (iq_sh l, w, J, X)) r) (fun v q hv r h1 h2 => zM_copies_76_91_81_l2_bok l J X v.1 v.2 hv r h1 h2) h r hq
set_option maxRecDepth 100000 in
theorem zM_copies_76_91_81_ok (l : Nat)   (I : iq_I) (J : iq_J) (X : iq_X) {q : iq_I} (h : zM_copies_76_91_81 I = some q) : iq_Cc 1 203 [.ref 76, .ref 91, .ref 81] (iq_sh l, I, J, X) (.inl none, (iq_sh l, q, J, X)) := by
  refine iq_Cc_of (L := [some (.ref 76), some (.ref 91), some (.ref 81), none]) rfl rfl ?_
  unfold zM_copies_76_91_81 at h
  refine iq_G_go (k := 2) (σ' := (2, [some (.ref 76), some (.ref 91), some (.ref 81), some (.int (0 : Int32))], [], (iq_sh l, I, J, X))) (fun _ => rfl) ?_
  obtain ⟨w2, hw2, h⟩ := iq_bnd h
  refine iq_G_fg (L := [none, some (.ref 91), some (.ref 81), some (.int (0 : Int32))]) (And.intro rfl (And.intro rfl (And.intro rfl trivial))) ?_
  refine zM_copies_76_91_81_l2_ok l J X hw2 _ ?_
  show iq_Gg 0 203 (20, [none, none, none, none], [], (iq_sh l, w2, J, X)) _
  cases h
  exact iq_G_ret (fun _ => rfl)
set_option maxRecDepth 100000 in
theorem zM_copies_76_92_82_l2_bok (l : Nat)   (J : iq_J) (X : iq_X) (x3 : Int32) (I : iq_I) {q : (Int32 × iq_I) ⊕ (iq_I)} (h : zM_copies_76_92_82_l2_b  x3 I = some q) (r : iq_R × iq_M) (hc : ∀ v, q = .inl v → iq_Gg 0 203 (2, [none, some (.ref 92), some (.ref 82), some (.int v.1)], [], (iq_sh l, v.2, J, X)) r) (hx : ∀ w, q = .inr w → iq_Gg 0 203 (20, [none, none, none, none], [], (iq_sh l, w, J, X)) r) : iq_Gg 0 203 (2, [none, some (.ref 92), some (.ref 82), some (.int x3)], [], (iq_sh l, I, J, X)) r := by
  unfold zM_copies_76_92_82_l2_b at h
  refine iq_G_go (k := 3) (σ' := (5, [none, some (.ref 92), some (.ref 82), some (.int x3)], [.int (4 : Int32), .int x3], (iq_sh l, I, J, X))) (fun _ => rfl) ?_
  rcases iq_ite h with ⟨hc_, h⟩ | ⟨hc_, h⟩
  · refine iq_G_pos (c := (4 : Int32) ≤ x3) (σ1 := (20, [none, some (.ref 92), some (.ref 82), some (.int x3)], [], (iq_sh l, I, J, X))) (fun _ => rfl) hc_ ?_
    cases h
    exact iq_G_fg (L := [none, none, none, none]) trivial (hx I rfl)
  · refine iq_G_neg (c := (4 : Int32) ≤ x3) (σ1 := (8, [none, some (.ref 92), some (.ref 82), some (.int x3)], [], (iq_sh l, I, J, X))) (fun _ => rfl) hc_ ?_
    refine iq_G_go (k := 4) (σ' := (12, [none, some (.ref 92), some (.ref 82), some (.int x3)], [.int x3, .ref 92, .int x3, .ref 82], (iq_sh l, I, J, X))) (fun _ => rfl) ?_
    obtain ⟨hc_, h⟩ := iq_itn h
    refine iq_G_pos (c := iq_in x3 4) (σ1 := (13, [none, some (.ref 92), some (.ref 82), some (.int x3)], [.int (I 92 (Int32.toNatClampNeg x3)), .int x3, .ref 82], (iq_sh l, I, J, X))) (fun _ => rfl) hc_ ?_
    obtain ⟨hc_, h⟩ := iq_itn h
    refine iq_G_pos (c := iq_in x3 4) (σ1 := (14, [none, some (.ref 92), some (.ref 82), some (.int x3)], [], (iq_sh l, (iq_upI I 82 (Int32.toNatClampNeg x3) (I 92 (Int32.toNatClampNeg x3))), J, X))) (fun _ => rfl) hc_ ?_
    obtain ⟨I1, eI1, h⟩ := ir_letG h
    rw [← eI1]
    clear eI1
    refine iq_G_go (k := 2) (σ' := (2, [none, some (.ref 92), some (.ref 82), some (.int (x3 + (1 : Int32)))], [], (iq_sh l, I1, J, X))) (fun _ => rfl) ?_
    cases h
    exact iq_G_fg (L := [none, some (.ref 92), some (.ref 82), some (.int (x3 + (1 : Int32)))]) (And.intro rfl (And.intro rfl (And.intro rfl trivial))) (hc ((x3 + (1 : Int32)), I1) rfl)
set_option maxRecDepth 100000 in
theorem zM_copies_76_92_82_l2_ok (l : Nat)   (J : iq_J) (X : iq_X) {n : Nat} {v : Int32 × iq_I} {w : iq_I} (h : zM_copies_76_92_82_l2  n v = some w) (r : iq_R × iq_M) (hq : iq_Gg 0 203 (20, [none, none, none, none], [], (iq_sh l, w, J, X)) r) : iq_Gg 0 203 (2, [none, some (.ref 92), some (.ref 82), some (.int v.1)], [], (iq_sh l, v.2, J, X)) r :=
  iq_lp_ok (σ := fun v => (2, [none, some (.ref 92), some (.ref 82), some (.int v.1)], [], (iq_sh l, v.2, J, X))) (Q := fun w r => iq_Gg 0 203 (20, [none, none, none, none], [], (iq_sh l, w, J, X)) r) (fun v q hv r h1 h2 => zM_copies_76_92_82_l2_bok l J X v.1 v.2 hv r h1 h2) h r hq
set_option maxRecDepth 100000 in
theorem zM_copies_76_92_82_ok (l : Nat)   (I : iq_I) (J : iq_J) (X : iq_X) {q : iq_I} (h : zM_copies_76_92_82 I = some q) : iq_Cc 1 203 [.ref 76, .ref 92, .ref 82] (iq_sh l, I, J, X) (.inl none, (iq_sh l, q, J, X)) := by
  refine iq_Cc_of (L := [some (.ref 76), some (.ref 92), some (.ref 82), none]) rfl rfl ?_
  unfold zM_copies_76_92_82 at h
  refine iq_G_go (k := 2) (σ' := (2, [some (.ref 76), some (.ref 92), some (.ref 82), some (.int (0 : Int32))], [], (iq_sh l, I, J, X))) (fun _ => rfl) ?_
  obtain ⟨w2, hw2, h⟩ := iq_bnd h
  refine iq_G_fg (L := [none, some (.ref 92), some (.ref 82), some (.int (0 : Int32))]) (And.intro rfl (And.intro rfl (And.intro rfl trivial))) ?_
  refine zM_copies_76_92_82_l2_ok l J X hw2 _ ?_
  show iq_Gg 0 203 (20, [none, none, none, none], [], (iq_sh l, w2, J, X)) _
  cases h
  exact iq_G_ret (fun _ => rfl)
set_option maxRecDepth 100000 in
theorem zM_copies_76_93_83_l2_bok (l : Nat)   (J : iq_J) (X : iq_X) (x3 : Int32) (I : iq_I) {q : (Int32 × iq_I) ⊕ (iq_I)} (h : zM_copies_76_93_83_l2_b  x3 I = some q) (r : iq_R × iq_M) (hc : ∀ v, q = .inl v → iq_Gg 0 203 (2, [none, some (.ref 93), some (.ref 83), some (.int v.1)], [], (iq_sh l, v.2, J, X)) r) (hx : ∀ w, q = .inr w → iq_Gg 0 203 (20, [none, none, none, none], [], (iq_sh l, w, J, X)) r) : iq_Gg 0 203 (2, [none, some (.ref 93), some (.ref 83), some (.int x3)], [], (iq_sh l, I, J, X)) r := by
  unfold zM_copies_76_93_83_l2_b at h
  refine iq_G_go (k := 3) (σ' := (5, [none, some (.ref 93), some (.ref 83), some (.int x3)], [.int (5 : Int32), .int x3], (iq_sh l, I, J, X))) (fun _ => rfl) ?_
  rcases iq_ite h with ⟨hc_, h⟩ | ⟨hc_, h⟩
  · refine iq_G_pos (c := (5 : Int32) ≤ x3) (σ1 := (20, [none, some (.ref 93), some (.ref 83), some (.int x3)], [], (iq_sh l, I, J, X))) (fun _ => rfl) hc_ ?_
    cases h
    exact iq_G_fg (L := [none, none, none, none]) trivial (hx I rfl)
  · refine iq_G_neg (c := (5 : Int32) ≤ x3) (σ1 := (8, [none, some (.ref 93), some (.ref 83), some (.int x3)], [], (iq_sh l, I, J, X))) (fun _ => rfl) hc_ ?_
    refine iq_G_go (k := 4) (σ' := (12, [none, some (.ref 93), some (.ref 83), some (.int x3)], [.int x3, .ref 93, .int x3, .ref 83], (iq_sh l, I, J, X))) (fun _ => rfl) ?_
    obtain ⟨hc_, h⟩ := iq_itn h
    refine iq_G_pos (c := iq_in x3 5) (σ1 := (13, [none, some (.ref 93), some (.ref 83), some (.int x3)], [.int (I 93 (Int32.toNatClampNeg x3)), .int x3, .ref 83], (iq_sh l, I, J, X))) (fun _ => rfl) hc_ ?_
    obtain ⟨hc_, h⟩ := iq_itn h
    refine iq_G_pos (c := iq_in x3 5) (σ1 := (14, [none, some (.ref 93), some (.ref 83), some (.int x3)], [], (iq_sh l, (iq_upI I 83 (Int32.toNatClampNeg x3) (I 93 (Int32.toNatClampNeg x3))), J, X))) (fun _ => rfl) hc_ ?_
    obtain ⟨I1, eI1, h⟩ := ir_letG h
    rw [← eI1]
    clear eI1
    refine iq_G_go (k := 2) (σ' := (2, [none, some (.ref 93), some (.ref 83), some (.int (x3 + (1 : Int32)))], [], (iq_sh l, I1, J, X))) (fun _ => rfl) ?_
    cases h
    exact iq_G_fg (L := [none, some (.ref 93), some (.ref 83), some (.int (x3 + (1 : Int32)))]) (And.intro rfl (And.intro rfl (And.intro rfl trivial))) (hc ((x3 + (1 : Int32)), I1) rfl)
set_option maxRecDepth 100000 in
theorem zM_copies_76_93_83_l2_ok (l : Nat)   (J : iq_J) (X : iq_X) {n : Nat} {v : Int32 × iq_I} {w : iq_I} (h : zM_copies_76_93_83_l2  n v = some w) (r : iq_R × iq_M) (hq : iq_Gg 0 203 (20, [none, none, none, none], [], (iq_sh l, w, J, X)) r) : iq_Gg 0 203 (2, [none, some (.ref 93), some (.ref 83), some (.int v.1)], [], (iq_sh l, v.2, J, X)) r :=
  iq_lp_ok (σ := fun v => (2, [none, some (.ref 93), some (.ref 83), some (.int v.1)], [], (iq_sh l, v.2, J, X))) (Q := fun w r => iq_Gg 0 203 (20, [none, none, none, none], [], (iq_sh l, w, J, X)) r) (fun v q hv r h1 h2 => zM_copies_76_93_83_l2_bok l J X v.1 v.2 hv r h1 h2) h r hq
set_option maxRecDepth 100000 in
theorem zM_copies_76_93_83_ok (l : Nat)   (I : iq_I) (J : iq_J) (X : iq_X) {q : iq_I} (h : zM_copies_76_93_83 I = some q) : iq_Cc 1 203 [.ref 76, .ref 93, .ref 83] (iq_sh l, I, J, X) (.inl none, (iq_sh l, q, J, X)) := by
  refine iq_Cc_of (L := [some (.ref 76), some (.ref 93), some (.ref 83), none]) rfl rfl ?_
  unfold zM_copies_76_93_83 at h
  refine iq_G_go (k := 2) (σ' := (2, [some (.ref 76), some (.ref 93), some (.ref 83), some (.int (0 : Int32))], [], (iq_sh l, I, J, X))) (fun _ => rfl) ?_
  obtain ⟨w2, hw2, h⟩ := iq_bnd h
  refine iq_G_fg (L := [none, some (.ref 93), some (.ref 83), some (.int (0 : Int32))]) (And.intro rfl (And.intro rfl (And.intro rfl trivial))) ?_
  refine zM_copies_76_93_83_l2_ok l J X hw2 _ ?_
  show iq_Gg 0 203 (20, [none, none, none, none], [], (iq_sh l, w2, J, X)) _
  cases h
  exact iq_G_ret (fun _ => rfl)
set_option maxRecDepth 100000 in
theorem zM_copies_76_95_84_l2_bok (l : Nat)   (J : iq_J) (X : iq_X) (x3 : Int32) (I : iq_I) {q : (Int32 × iq_I) ⊕ (iq_I)} (h : zM_copies_76_95_84_l2_b  x3 I = some q) (r : iq_R × iq_M) (hc : ∀ v, q = .inl v → iq_Gg 0 203 (2, [none, some (.ref 95), some (.ref 84), some (.int v.1)], [], (iq_sh l, v.2, J, X)) r) (hx : ∀ w, q = .inr w → iq_Gg 0 203 (20, [none, none, none, none], [], (iq_sh l, w, J, X)) r) : iq_Gg 0 203 (2, [none, some (.ref 95), some (.ref 84), some (.int x3)], [], (iq_sh l, I, J, X)) r := by
  unfold zM_copies_76_95_84_l2_b at h
  refine iq_G_go (k := 3) (σ' := (5, [none, some (.ref 95), some (.ref 84), some (.int x3)], [.int (4000 : Int32), .int x3], (iq_sh l, I, J, X))) (fun _ => rfl) ?_
  rcases iq_ite h with ⟨hc_, h⟩ | ⟨hc_, h⟩
  · refine iq_G_pos (c := (4000 : Int32) ≤ x3) (σ1 := (20, [none, some (.ref 95), some (.ref 84), some (.int x3)], [], (iq_sh l, I, J, X))) (fun _ => rfl) hc_ ?_
    cases h
    exact iq_G_fg (L := [none, none, none, none]) trivial (hx I rfl)
  · refine iq_G_neg (c := (4000 : Int32) ≤ x3) (σ1 := (8, [none, some (.ref 95), some (.ref 84), some (.int x3)], [], (iq_sh l, I, J, X))) (fun _ => rfl) hc_ ?_
    refine iq_G_go (k := 4) (σ' := (12, [none, some (.ref 95), some (.ref 84), some (.int x3)], [.int x3, .ref 95, .int x3, .ref 84], (iq_sh l, I, J, X))) (fun _ => rfl) ?_
    obtain ⟨hc_, h⟩ := iq_itn h
    refine iq_G_pos (c := iq_in x3 4000) (σ1 := (13, [none, some (.ref 95), some (.ref 84), some (.int x3)], [.int (I 95 (Int32.toNatClampNeg x3)), .int x3, .ref 84], (iq_sh l, I, J, X))) (fun _ => rfl) hc_ ?_
    obtain ⟨hc_, h⟩ := iq_itn h
    refine iq_G_pos (c := iq_in x3 4000) (σ1 := (14, [none, some (.ref 95), some (.ref 84), some (.int x3)], [], (iq_sh l, (iq_upI I 84 (Int32.toNatClampNeg x3) (I 95 (Int32.toNatClampNeg x3))), J, X))) (fun _ => rfl) hc_ ?_
    obtain ⟨I1, eI1, h⟩ := ir_letG h
    rw [← eI1]
    clear eI1
    refine iq_G_go (k := 2) (σ' := (2, [none, some (.ref 95), some (.ref 84), some (.int (x3 + (1 : Int32)))], [], (iq_sh l, I1, J, X))) (fun _ => rfl) ?_
    cases h
    exact iq_G_fg (L := [none, some (.ref 95), some (.ref 84), some (.int (x3 + (1 : Int32)))]) (And.intro rfl (And.intro rfl (And.intro rfl trivial))) (hc ((x3 + (1 : Int32)), I1) rfl)
set_option maxRecDepth 100000 in
theorem zM_copies_76_95_84_l2_ok (l : Nat)   (J : iq_J) (X : iq_X) {n : Nat} {v : Int32 × iq_I} {w : iq_I} (h : zM_copies_76_95_84_l2  n v = some w) (r : iq_R × iq_M) (hq : iq_Gg 0 203 (20, [none, none, none, none], [], (iq_sh l, w, J, X)) r) : iq_Gg 0 203 (2, [none, some (.ref 95), some (.ref 84), some (.int v.1)], [], (iq_sh l, v.2, J, X)) r :=
  iq_lp_ok (σ := fun v => (2, [none, some (.ref 95), some (.ref 84), some (.int v.1)], [], (iq_sh l, v.2, J, X))) (Q := fun w r => iq_Gg 0 203 (20, [none, none, none, none], [], (iq_sh l, w, J, X)) r) (fun v q hv r h1 h2 => zM_copies_76_95_84_l2_bok l J X v.1 v.2 hv r h1 h2) h r hq
set_option maxRecDepth 100000 in
theorem zM_copies_76_95_84_ok (l : Nat)   (I : iq_I) (J : iq_J) (X : iq_X) {q : iq_I} (h : zM_copies_76_95_84 I = some q) : iq_Cc 1 203 [.ref 76, .ref 95, .ref 84] (iq_sh l, I, J, X) (.inl none, (iq_sh l, q, J, X)) := by
  refine iq_Cc_of (L := [some (.ref 76), some (.ref 95), some (.ref 84), none]) rfl rfl ?_
  unfold zM_copies_76_95_84 at h
  refine iq_G_go (k := 2) (σ' := (2, [some (.ref 76), some (.ref 95), some (.ref 84), some (.int (0 : Int32))], [], (iq_sh l, I, J, X))) (fun _ => rfl) ?_
  obtain ⟨w2, hw2, h⟩ := iq_bnd h
  refine iq_G_fg (L := [none, some (.ref 95), some (.ref 84), some (.int (0 : Int32))]) (And.intro rfl (And.intro rfl (And.intro rfl trivial))) ?_
  refine zM_copies_76_95_84_l2_ok l J X hw2 _ ?_
  show iq_Gg 0 203 (20, [none, none, none, none], [], (iq_sh l, w2, J, X)) _
  cases h
  exact iq_G_ret (fun _ => rfl)
set_option maxRecDepth 100000 in
theorem zM_copies_76_94_98_l2_bok (l : Nat)   (J : iq_J) (X : iq_X) (x3 : Int32) (I : iq_I) {q : (Int32 × iq_I) ⊕ (iq_I)} (h : zM_copies_76_94_98_l2_b  x3 I = some q) (r : iq_R × iq_M) (hc : ∀ v, q = .inl v → iq_Gg 0 203 (2, [none, some (.ref 94), some (.ref 98), some (.int v.1)], [], (iq_sh l, v.2, J, X)) r) (hx : ∀ w, q = .inr w → iq_Gg 0 203 (20, [none, none, none, none], [], (iq_sh l, w, J, X)) r) : iq_Gg 0 203 (2, [none, some (.ref 94), some (.ref 98), some (.int x3)], [], (iq_sh l, I, J, X)) r := by
  unfold zM_copies_76_94_98_l2_b at h
  refine iq_G_go (k := 3) (σ' := (5, [none, some (.ref 94), some (.ref 98), some (.int x3)], [.int (206 : Int32), .int x3], (iq_sh l, I, J, X))) (fun _ => rfl) ?_
  rcases iq_ite h with ⟨hc_, h⟩ | ⟨hc_, h⟩
  · refine iq_G_pos (c := (206 : Int32) ≤ x3) (σ1 := (20, [none, some (.ref 94), some (.ref 98), some (.int x3)], [], (iq_sh l, I, J, X))) (fun _ => rfl) hc_ ?_
    cases h
    exact iq_G_fg (L := [none, none, none, none]) trivial (hx I rfl)
  · refine iq_G_neg (c := (206 : Int32) ≤ x3) (σ1 := (8, [none, some (.ref 94), some (.ref 98), some (.int x3)], [], (iq_sh l, I, J, X))) (fun _ => rfl) hc_ ?_
    refine iq_G_go (k := 4) (σ' := (12, [none, some (.ref 94), some (.ref 98), some (.int x3)], [.int x3, .ref 94, .int x3, .ref 98], (iq_sh l, I, J, X))) (fun _ => rfl) ?_
    obtain ⟨hc_, h⟩ := iq_itn h
    refine iq_G_pos (c := iq_in x3 206) (σ1 := (13, [none, some (.ref 94), some (.ref 98), some (.int x3)], [.int (I 94 (Int32.toNatClampNeg x3)), .int x3, .ref 98], (iq_sh l, I, J, X))) (fun _ => rfl) hc_ ?_
    obtain ⟨hc_, h⟩ := iq_itn h
    refine iq_G_pos (c := iq_in x3 206) (σ1 := (14, [none, some (.ref 94), some (.ref 98), some (.int x3)], [], (iq_sh l, (iq_upI I 98 (Int32.toNatClampNeg x3) (I 94 (Int32.toNatClampNeg x3))), J, X))) (fun _ => rfl) hc_ ?_
    obtain ⟨I1, eI1, h⟩ := ir_letG h
    rw [← eI1]
    clear eI1
    refine iq_G_go (k := 2) (σ' := (2, [none, some (.ref 94), some (.ref 98), some (.int (x3 + (1 : Int32)))], [], (iq_sh l, I1, J, X))) (fun _ => rfl) ?_
    cases h
    exact iq_G_fg (L := [none, some (.ref 94), some (.ref 98), some (.int (x3 + (1 : Int32)))]) (And.intro rfl (And.intro rfl (And.intro rfl trivial))) (hc ((x3 + (1 : Int32)), I1) rfl)
set_option maxRecDepth 100000 in
theorem zM_copies_76_94_98_l2_ok (l : Nat)   (J : iq_J) (X : iq_X) {n : Nat} {v : Int32 × iq_I} {w : iq_I} (h : zM_copies_76_94_98_l2  n v = some w) (r : iq_R × iq_M) (hq : iq_Gg 0 203 (20, [none, none, none, none], [], (iq_sh l, w, J, X)) r) : iq_Gg 0 203 (2, [none, some (.ref 94), some (.ref 98), some (.int v.1)], [], (iq_sh l, v.2, J, X)) r :=
  iq_lp_ok (σ := fun v => (2, [none, some (.ref 94), some (.ref 98), some (.int v.1)], [], (iq_sh l, v.2, J, X))) (Q := fun w r => iq_Gg 0 203 (20, [none, none, none, none], [], (iq_sh l, w, J, X)) r) (fun v q hv r h1 h2 => zM_copies_76_94_98_l2_bok l J X v.1 v.2 hv r h1 h2) h r hq
set_option maxRecDepth 100000 in
theorem zM_copies_76_94_98_ok (l : Nat)   (I : iq_I) (J : iq_J) (X : iq_X) {q : iq_I} (h : zM_copies_76_94_98 I = some q) : iq_Cc 1 203 [.ref 76, .ref 94, .ref 98] (iq_sh l, I, J, X) (.inl none, (iq_sh l, q, J, X)) := by
  refine iq_Cc_of (L := [some (.ref 76), some (.ref 94), some (.ref 98), none]) rfl rfl ?_
  unfold zM_copies_76_94_98 at h
  refine iq_G_go (k := 2) (σ' := (2, [some (.ref 76), some (.ref 94), some (.ref 98), some (.int (0 : Int32))], [], (iq_sh l, I, J, X))) (fun _ => rfl) ?_
  obtain ⟨w2, hw2, h⟩ := iq_bnd h
  refine iq_G_fg (L := [none, some (.ref 94), some (.ref 98), some (.int (0 : Int32))]) (And.intro rfl (And.intro rfl (And.intro rfl trivial))) ?_
  refine zM_copies_76_94_98_l2_ok l J X hw2 _ ?_
  show iq_Gg 0 203 (20, [none, none, none, none], [], (iq_sh l, w2, J, X)) _
  cases h
  exact iq_G_ret (fun _ => rfl)
set_option maxRecDepth 100000 in
theorem zM_museum_l104_bok (l : Nat)   (J : iq_J) (X : iq_X) (x2 : Int32) (I : iq_I) {q : (Int32 × iq_I) ⊕ (iq_I)} (h : zM_museum_l104_b J x2 I = some q) (r : iq_R × iq_M) (hc : ∀ v, q = .inl v → iq_Gg 7 238 (104, [some (.ref 76), none, some (.int v.1)], [], (iq_sh l, v.2, J, X)) r) (hx : ∀ w, q = .inr w → iq_Gg 7 238 (123, [some (.ref 76), none, none], [], (iq_sh l, w, J, X)) r) : iq_Gg 7 238 (104, [some (.ref 76), none, some (.int x2)], [], (iq_sh l, I, J, X)) r := by
  unfold zM_museum_l104_b at h
  refine iq_G_go (k := 2) (σ' := (107, [some (.ref 76), none, some (.int x2)], [.int (80 : Int32), .int x2], (iq_sh l, I, J, X))) (fun _ => rfl) ?_
  rcases iq_ite h with ⟨hc_, h⟩ | ⟨hc_, h⟩
  · refine iq_G_pos (c := (80 : Int32) ≤ x2) (σ1 := (123, [some (.ref 76), none, some (.int x2)], [], (iq_sh l, I, J, X))) (fun _ => rfl) hc_ ?_
    cases h
    exact iq_G_fg (L := [some (.ref 76), none, none]) (And.intro rfl trivial) (hx I rfl)
  · refine iq_G_neg (c := (80 : Int32) ≤ x2) (σ1 := (110, [some (.ref 76), none, some (.int x2)], [], (iq_sh l, I, J, X))) (fun _ => rfl) hc_ ?_
    refine iq_G_go (k := 4) (σ' := (116, [some (.ref 76), none, some (.int x2)], [.int (-1 : Int32), .int x2, .ref 90], (iq_sh l, I, J, X))) (fun _ => rfl) ?_
    obtain ⟨hc_, h⟩ := iq_itn h
    refine iq_G_pos (c := iq_in x2 80) (σ1 := (117, [some (.ref 76), none, some (.int x2)], [], (iq_sh l, (iq_upI I 90 (Int32.toNatClampNeg x2) (-1 : Int32)), J, X))) (fun _ => rfl) hc_ ?_
    obtain ⟨I17, eI17, h⟩ := ir_letG h
    rw [← eI17]
    clear eI17
    refine iq_G_go (k := 2) (σ' := (104, [some (.ref 76), none, some (.int (x2 + (1 : Int32)))], [], (iq_sh l, I17, J, X))) (fun _ => rfl) ?_
    cases h
    exact iq_G_fg (L := [some (.ref 76), none, some (.int (x2 + (1 : Int32)))]) (And.intro rfl (And.intro rfl trivial)) (hc ((x2 + (1 : Int32)), I17) rfl)
set_option maxRecDepth 100000 in
theorem zM_museum_l104_ok (l : Nat)   (J : iq_J) (X : iq_X) {n : Nat} {v : Int32 × iq_I} {w : iq_I} (h : zM_museum_l104 J n v = some w) (r : iq_R × iq_M) (hq : iq_Gg 7 238 (123, [some (.ref 76), none, none], [], (iq_sh l, w, J, X)) r) : iq_Gg 7 238 (104, [some (.ref 76), none, some (.int v.1)], [], (iq_sh l, v.2, J, X)) r :=
  iq_lp_ok (σ := fun v => (104, [some (.ref 76), none, some (.int v.1)], [], (iq_sh l, v.2, J, X))) (Q := fun w r => iq_Gg 7 238 (123, [some (.ref 76), none, none], [], (iq_sh l, w, J, X)) r) (fun v q hv r h1 h2 => zM_museum_l104_bok l J X v.1 v.2 hv r h1 h2) h r hq
set_option maxRecDepth 100000 in
theorem zM_museum_l125_bok (l : Nat)   (J : iq_J) (X : iq_X) (x2 : Int32) (I : iq_I) {q : (Int32 × iq_I) ⊕ (iq_I)} (h : zM_museum_l125_b J x2 I = some q) (r : iq_R × iq_M) (hc : ∀ v, q = .inl v → iq_Gg 7 238 (125, [some (.ref 76), none, some (.int v.1)], [], (iq_sh l, v.2, J, X)) r) (hx : ∀ w, q = .inr w → iq_Gg 7 238 (144, [some (.ref 76), none, none], [], (iq_sh l, w, J, X)) r) : iq_Gg 7 238 (125, [some (.ref 76), none, some (.int x2)], [], (iq_sh l, I, J, X)) r := by
  unfold zM_museum_l125_b at h
  refine iq_G_go (k := 2) (σ' := (128, [some (.ref 76), none, some (.int x2)], [.int (8 : Int32), .int x2], (iq_sh l, I, J, X))) (fun _ => rfl) ?_
  rcases iq_ite h with ⟨hc_, h⟩ | ⟨hc_, h⟩
  · refine iq_G_pos (c := (8 : Int32) ≤ x2) (σ1 := (144, [some (.ref 76), none, some (.int x2)], [], (iq_sh l, I, J, X))) (fun _ => rfl) hc_ ?_
    cases h
    exact iq_G_fg (L := [some (.ref 76), none, none]) (And.intro rfl trivial) (hx I rfl)
  · refine iq_G_neg (c := (8 : Int32) ≤ x2) (σ1 := (131, [some (.ref 76), none, some (.int x2)], [], (iq_sh l, I, J, X))) (fun _ => rfl) hc_ ?_
    refine iq_G_go (k := 4) (σ' := (137, [some (.ref 76), none, some (.int x2)], [.int (1 : Int32), .int x2, .ref 91], (iq_sh l, I, J, X))) (fun _ => rfl) ?_
    obtain ⟨hc_, h⟩ := iq_itn h
    refine iq_G_pos (c := iq_in x2 8) (σ1 := (138, [some (.ref 76), none, some (.int x2)], [], (iq_sh l, (iq_upI I 91 (Int32.toNatClampNeg x2) (1 : Int32)), J, X))) (fun _ => rfl) hc_ ?_
    obtain ⟨I19, eI19, h⟩ := ir_letG h
    rw [← eI19]
    clear eI19
    refine iq_G_go (k := 2) (σ' := (125, [some (.ref 76), none, some (.int (x2 + (1 : Int32)))], [], (iq_sh l, I19, J, X))) (fun _ => rfl) ?_
    cases h
    exact iq_G_fg (L := [some (.ref 76), none, some (.int (x2 + (1 : Int32)))]) (And.intro rfl (And.intro rfl trivial)) (hc ((x2 + (1 : Int32)), I19) rfl)
set_option maxRecDepth 100000 in
theorem zM_museum_l125_ok (l : Nat)   (J : iq_J) (X : iq_X) {n : Nat} {v : Int32 × iq_I} {w : iq_I} (h : zM_museum_l125 J n v = some w) (r : iq_R × iq_M) (hq : iq_Gg 7 238 (144, [some (.ref 76), none, none], [], (iq_sh l, w, J, X)) r) : iq_Gg 7 238 (125, [some (.ref 76), none, some (.int v.1)], [], (iq_sh l, v.2, J, X)) r :=
  iq_lp_ok (σ := fun v => (125, [some (.ref 76), none, some (.int v.1)], [], (iq_sh l, v.2, J, X))) (Q := fun w r => iq_Gg 7 238 (144, [some (.ref 76), none, none], [], (iq_sh l, w, J, X)) r) (fun v q hv r h1 h2 => zM_museum_l125_bok l J X v.1 v.2 hv r h1 h2) h r hq
set_option maxRecDepth 100000 in
theorem zM_museum_l155_bok (l : Nat)   (X : iq_X)  (I : iq_I) (J : iq_J) {q : (iq_I × iq_J) ⊕ (iq_I × iq_J)} (h : zM_museum_l155_b  I J = some q) (r : iq_R × iq_M) (hc : ∀ v, q = .inl v → iq_Gg 7 238 (155, [some (.ref 76), none, none], [], (iq_sh l, v.1, v.2, X)) r) (hx : ∀ w, q = .inr w → iq_Gg 7 238 (176, [some (.ref 76), none, none], [], (iq_sh l, w.1, w.2, X)) r) : iq_Gg 7 238 (155, [some (.ref 76), none, none], [], (iq_sh l, I, J, X)) r := by
  unfold zM_museum_l155_b at h
  refine iq_G_go (k := 1) (σ' := (156, [some (.ref 76), none, none], [.ref 76], (iq_sh l, I, J, X))) (fun _ => rfl) ?_
  obtain ⟨q23, hq23, h⟩ := iq_bnd h
  refine iq_G_call (σ' := (159, [some (.ref 76), none, none], [.int q23], (iq_sh l, I, J, X))) (fun _ => rfl) (zM_isGood_ok l  I J X hq23) rfl rfl ?_
  rcases iq_ite h with ⟨hc_, h⟩ | ⟨hc_, h⟩
  · refine iq_G_pos (c := q23 = 0) (σ1 := (176, [some (.ref 76), none, none], [], (iq_sh l, I, J, X))) (fun _ => rfl) hc_ ?_
    cases h
    exact iq_G_fg (L := [some (.ref 76), none, none]) (And.intro rfl trivial) (hx (I, J) rfl)
  · refine iq_G_neg (c := q23 = 0) (σ1 := (162, [some (.ref 76), none, none], [], (iq_sh l, I, J, X))) (fun _ => rfl) hc_ ?_
    refine iq_G_go (k := 2) (σ' := (166, [some (.ref 76), none, none], [.int (I 76 23)], (iq_sh l, I, J, X))) (fun _ => rfl) ?_
    rcases iq_ite h with ⟨hc_, h⟩ | ⟨hc_, h⟩
    · refine iq_G_pos (c := (I 76 23) = 0) (σ1 := (176, [some (.ref 76), none, none], [], (iq_sh l, I, J, X))) (fun _ => rfl) hc_ ?_
      cases h
      exact iq_G_fg (L := [some (.ref 76), none, none]) (And.intro rfl trivial) (hx (I, J) rfl)
    · refine iq_G_neg (c := (I 76 23) = 0) (σ1 := (169, [some (.ref 76), none, none], [], (iq_sh l, I, J, X))) (fun _ => rfl) hc_ ?_
      refine iq_G_go (k := 1) (σ' := (170, [some (.ref 76), none, none], [.ref 76], (iq_sh l, I, J, X))) (fun _ => rfl) ?_
      obtain ⟨q24, hq24, h⟩ := iq_bnd h
      refine iq_G_call (σ' := (173, [some (.ref 76), none, none], [], (iq_sh l, q24.1, q24.2, X))) (fun _ => rfl) (zM_line_ok l  I J X hq24) rfl rfl ?_
      refine iq_G_go (k := 1) (σ' := (155, [some (.ref 76), none, none], [], (iq_sh l, q24.1, q24.2, X))) (fun _ => rfl) ?_
      cases h
      exact iq_G_fg (L := [some (.ref 76), none, none]) (And.intro rfl trivial) (hc (q24.1, q24.2) rfl)
set_option maxRecDepth 100000 in
theorem zM_museum_l155_ok (l : Nat)   (X : iq_X) {n : Nat} {v : iq_I × iq_J} {w : iq_I × iq_J} (h : zM_museum_l155  n v = some w) (r : iq_R × iq_M) (hq : iq_Gg 7 238 (176, [some (.ref 76), none, none], [], (iq_sh l, w.1, w.2, X)) r) : iq_Gg 7 238 (155, [some (.ref 76), none, none], [], (iq_sh l, v.1, v.2, X)) r :=
  iq_lp_ok (σ := fun v => (155, [some (.ref 76), none, none], [], (iq_sh l, v.1, v.2, X))) (Q := fun w r => iq_Gg 7 238 (176, [some (.ref 76), none, none], [], (iq_sh l, w.1, w.2, X)) r) (fun v q hv r h1 h2 => zM_museum_l155_bok l X v.1 v.2 hv r h1 h2) h r hq
set_option maxRecDepth 100000 in
theorem zM_museum_176_ok (l : Nat)   (I : iq_I) (J : iq_J) (X : iq_X)  {q : Int32 × iq_I × iq_J} (h : zM_museum_176 I J = some q)  : iq_Gg 7 238 (176, [some (.ref 76), none, none], [], (iq_sh l, I, J, X)) (.inl (some (.int q.1)), (iq_sh l, q.2.1, q.2.2, X)) := by
  unfold zM_museum_176 at h
  refine iq_G_go (k := 1) (σ' := (177, [some (.ref 76), none, none], [.ref 76], (iq_sh l, I, J, X))) (fun _ => rfl) ?_
  obtain ⟨q26, hq26, h⟩ := iq_bnd h
  refine iq_G_call (σ' := (180, [some (.ref 76), none, none], [.int q26], (iq_sh l, I, J, X))) (fun _ => rfl) (zM_isGood_ok l  I J X hq26) rfl rfl ?_
  rcases iq_ite h with ⟨hc_, h⟩ | ⟨hc_, h⟩
  · refine iq_G_pos (c := ¬ q26 = 0) (σ1 := (198, [some (.ref 76), none, none], [], (iq_sh l, I, J, X))) (fun _ => rfl) hc_ ?_
    refine iq_G_go (k := 3) (σ' := (203, [some (.ref 76), none, none], [.int (I 76 29), .ref 76], (iq_sh l, I, J, X))) (fun _ => rfl) ?_
    refine iq_G_go (k := 1) (σ' := (206, [some (.ref 76), none, none], [], (iq_sh l, (iq_upI I 76 1 (I 76 29)), J, X))) (fun _ => rfl) ?_
    obtain ⟨I27, eI27, h⟩ := ir_letG h
    rw [← eI27]
    clear eI27
    refine iq_G_go (k := 3) (σ' := (211, [some (.ref 76), none, none], [.int (I27 76 30), .ref 76], (iq_sh l, I27, J, X))) (fun _ => rfl) ?_
    refine iq_G_go (k := 1) (σ' := (214, [some (.ref 76), none, none], [], (iq_sh l, (iq_upI I27 76 2 (I27 76 30)), J, X))) (fun _ => rfl) ?_
    obtain ⟨I28, eI28, h⟩ := ir_letG h
    rw [← eI28]
    clear eI28
    refine iq_G_go (k := 3) (σ' := (219, [some (.ref 76), none, none], [.int (I28 76 31), .ref 76], (iq_sh l, I28, J, X))) (fun _ => rfl) ?_
    refine iq_G_go (k := 1) (σ' := (222, [some (.ref 76), none, none], [], (iq_sh l, (iq_upI I28 76 3 (I28 76 31)), J, X))) (fun _ => rfl) ?_
    obtain ⟨I29, eI29, h⟩ := ir_letG h
    rw [← eI29]
    clear eI29
    refine iq_G_go (k := 3) (σ' := (227, [some (.ref 76), none, none], [.int (I29 76 32), .ref 76], (iq_sh l, I29, J, X))) (fun _ => rfl) ?_
    refine iq_G_go (k := 1) (σ' := (230, [some (.ref 76), none, none], [], (iq_sh l, (iq_upI I29 76 4 (I29 76 32)), J, X))) (fun _ => rfl) ?_
    obtain ⟨I30, eI30, h⟩ := ir_letG h
    rw [← eI30]
    clear eI30
    refine iq_G_go (k := 3) (σ' := (235, [some (.ref 76), none, none], [.int (I30 76 33), .ref 76], (iq_sh l, I30, J, X))) (fun _ => rfl) ?_
    refine iq_G_go (k := 1) (σ' := (238, [some (.ref 76), none, none], [], (iq_sh l, (iq_upI I30 76 5 (I30 76 33)), J, X))) (fun _ => rfl) ?_
    obtain ⟨I31, eI31, h⟩ := ir_letG h
    rw [← eI31]
    clear eI31
    refine iq_G_go (k := 3) (σ' := (243, [some (.ref 76), none, none], [.int (I31 76 34), .ref 76], (iq_sh l, I31, J, X))) (fun _ => rfl) ?_
    refine iq_G_go (k := 1) (σ' := (246, [some (.ref 76), none, none], [], (iq_sh l, (iq_upI I31 76 6 (I31 76 34)), J, X))) (fun _ => rfl) ?_
    obtain ⟨I32, eI32, h⟩ := ir_letG h
    rw [← eI32]
    clear eI32
    refine iq_G_go (k := 3) (σ' := (251, [some (.ref 76), none, none], [.int (I32 76 35), .ref 76], (iq_sh l, I32, J, X))) (fun _ => rfl) ?_
    refine iq_G_go (k := 1) (σ' := (254, [some (.ref 76), none, none], [], (iq_sh l, (iq_upI I32 76 7 (I32 76 35)), J, X))) (fun _ => rfl) ?_
    obtain ⟨I33, eI33, h⟩ := ir_letG h
    rw [← eI33]
    clear eI33
    refine iq_G_go (k := 5) (σ' := (263, [some (.ref 76), none, none], [.ref 77, .ref 87, .ref 76], (iq_sh l, I33, J, X))) (fun _ => rfl) ?_
    obtain ⟨q34, hq34, h⟩ := iq_bnd h
    refine iq_G_call (σ' := (266, [some (.ref 76), none, none], [], (iq_sh l, q34, J, X))) (fun _ => rfl) (zM_copies_76_87_77_ok l  I33 J X hq34) rfl rfl ?_
    refine iq_G_go (k := 5) (σ' := (275, [some (.ref 76), none, none], [.ref 78, .ref 88, .ref 76], (iq_sh l, q34, J, X))) (fun _ => rfl) ?_
    obtain ⟨q35, hq35, h⟩ := iq_bnd h
    refine iq_G_call (σ' := (278, [some (.ref 76), none, none], [], (iq_sh l, q35, J, X))) (fun _ => rfl) (zM_copies_76_88_78_ok l  q34 J X hq35) rfl rfl ?_
    refine iq_G_go (k := 5) (σ' := (287, [some (.ref 76), none, none], [.ref 79, .ref 89, .ref 76], (iq_sh l, q35, J, X))) (fun _ => rfl) ?_
    obtain ⟨q36, hq36, h⟩ := iq_bnd h
    refine iq_G_call (σ' := (290, [some (.ref 76), none, none], [], (iq_sh l, q36, J, X))) (fun _ => rfl) (zM_copies_76_89_79_ok l  q35 J X hq36) rfl rfl ?_
    refine iq_G_go (k := 5) (σ' := (299, [some (.ref 76), none, none], [.ref 80, .ref 90, .ref 76], (iq_sh l, q36, J, X))) (fun _ => rfl) ?_
    obtain ⟨q37, hq37, h⟩ := iq_bnd h
    refine iq_G_call (σ' := (302, [some (.ref 76), none, none], [], (iq_sh l, q37, J, X))) (fun _ => rfl) (zM_copies_76_90_80_ok l  q36 J X hq37) rfl rfl ?_
    refine iq_G_go (k := 5) (σ' := (311, [some (.ref 76), none, none], [.ref 81, .ref 91, .ref 76], (iq_sh l, q37, J, X))) (fun _ => rfl) ?_
    obtain ⟨q38, hq38, h⟩ := iq_bnd h
    refine iq_G_call (σ' := (314, [some (.ref 76), none, none], [], (iq_sh l, q38, J, X))) (fun _ => rfl) (zM_copies_76_91_81_ok l  q37 J X hq38) rfl rfl ?_
    refine iq_G_go (k := 5) (σ' := (323, [some (.ref 76), none, none], [.ref 82, .ref 92, .ref 76], (iq_sh l, q38, J, X))) (fun _ => rfl) ?_
    obtain ⟨q39, hq39, h⟩ := iq_bnd h
    refine iq_G_call (σ' := (326, [some (.ref 76), none, none], [], (iq_sh l, q39, J, X))) (fun _ => rfl) (zM_copies_76_92_82_ok l  q38 J X hq39) rfl rfl ?_
    refine iq_G_go (k := 5) (σ' := (335, [some (.ref 76), none, none], [.ref 83, .ref 93, .ref 76], (iq_sh l, q39, J, X))) (fun _ => rfl) ?_
    obtain ⟨q40, hq40, h⟩ := iq_bnd h
    refine iq_G_call (σ' := (338, [some (.ref 76), none, none], [], (iq_sh l, q40, J, X))) (fun _ => rfl) (zM_copies_76_93_83_ok l  q39 J X hq40) rfl rfl ?_
    refine iq_G_go (k := 5) (σ' := (347, [some (.ref 76), none, none], [.ref 84, .ref 95, .ref 76], (iq_sh l, q40, J, X))) (fun _ => rfl) ?_
    obtain ⟨q41, hq41, h⟩ := iq_bnd h
    refine iq_G_call (σ' := (350, [some (.ref 76), none, none], [], (iq_sh l, q41, J, X))) (fun _ => rfl) (zM_copies_76_95_84_ok l  q40 J X hq41) rfl rfl ?_
    refine iq_G_go (k := 5) (σ' := (359, [some (.ref 76), none, none], [.ref 98, .ref 94, .ref 76], (iq_sh l, q41, J, X))) (fun _ => rfl) ?_
    obtain ⟨q42, hq42, h⟩ := iq_bnd h
    refine iq_G_call (σ' := (362, [some (.ref 76), none, none], [], (iq_sh l, q42, J, X))) (fun _ => rfl) (zM_copies_76_94_98_ok l  q41 J X hq42) rfl rfl ?_
    refine iq_G_go (k := 2) (σ' := (364, [some (.ref 76), none, none], [.int (0 : Int32), .ref 76], (iq_sh l, q42, J, X))) (fun _ => rfl) ?_
    refine iq_G_go (k := 1) (σ' := (367, [some (.ref 76), none, none], [], (iq_sh l, (iq_upI q42 76 54 (0 : Int32)), J, X))) (fun _ => rfl) ?_
    obtain ⟨I43, eI43, h⟩ := ir_letG h
    rw [← eI43]
    clear eI43
    refine iq_G_go (k := 2) (σ' := (369, [some (.ref 76), none, none], [.int (0 : Int32), .ref 76], (iq_sh l, I43, J, X))) (fun _ => rfl) ?_
    refine iq_G_go (k := 1) (σ' := (372, [some (.ref 76), none, none], [], (iq_sh l, (iq_upI I43 76 63 (0 : Int32)), J, X))) (fun _ => rfl) ?_
    obtain ⟨I44, eI44, h⟩ := ir_letG h
    rw [← eI44]
    clear eI44
    refine iq_G_go (k := 2) (σ' := (374, [some (.ref 76), none, none], [.int (0 : Int32), .ref 76], (iq_sh l, I44, J, X))) (fun _ => rfl) ?_
    refine iq_G_go (k := 1) (σ' := (377, [some (.ref 76), none, none], [], (iq_sh l, (iq_upI I44 76 68 (0 : Int32)), J, X))) (fun _ => rfl) ?_
    obtain ⟨I45, eI45, h⟩ := ir_letG h
    rw [← eI45]
    clear eI45
    refine iq_G_go (k := 1) (σ' := (378, [some (.ref 76), none, none], [.int (0 : Int32)], (iq_sh l, I45, J, X))) (fun _ => rfl) ?_
    cases h
    exact iq_G_ret (fun _ => rfl)
  · refine iq_G_neg (c := ¬ q26 = 0) (σ1 := (183, [some (.ref 76), none, none], [], (iq_sh l, I, J, X))) (fun _ => rfl) hc_ ?_
    refine iq_G_go (k := 4) (σ' := (189, [some (.ref 76), none, none], [.int (0 : Int32), .ref 86, .int (0 : Int32), .ref 86], (iq_sh l, I, J, X))) (fun _ => rfl) ?_
    refine iq_G_go (k := 1) (σ' := (190, [some (.ref 76), none, none], [.int (I 86 0), .int (0 : Int32), .ref 86], (iq_sh l, I, J, X))) (fun _ => rfl) ?_
    refine iq_G_go (k := 2) (σ' := (192, [some (.ref 76), none, none], [.int ((I 86 0) + (1 : Int32)), .int (0 : Int32), .ref 86], (iq_sh l, I, J, X))) (fun _ => rfl) ?_
    refine iq_G_go (k := 1) (σ' := (193, [some (.ref 76), none, none], [], (iq_sh l, (iq_upI I 86 0 ((I 86 0) + (1 : Int32))), J, X))) (fun _ => rfl) ?_
    obtain ⟨I46, eI46, h⟩ := ir_letG h
    rw [← eI46]
    clear eI46
    refine iq_G_go (k := 2) (σ' := (197, [some (.ref 76), none, none], [.int (I46 76 18)], (iq_sh l, I46, J, X))) (fun _ => rfl) ?_
    cases h
    exact iq_G_ret (fun _ => rfl)
set_option maxRecDepth 100000 in
theorem zM_museum_23_ok (l : Nat)  (x1 : Int32) (s1 : Int32) (I : iq_I) (J : iq_J) (X : iq_X)  {q : Int32 × iq_I × iq_J} (h : zM_museum_23 x1 s1 I J = some q)  : iq_Gg 7 238 (23, [some (.ref 76), some (.int x1), none], [.int s1, .ref 76], (iq_sh l, I, J, X)) (.inl (some (.int q.1)), (iq_sh l, q.2.1, q.2.2, X)) := by
  unfold zM_museum_23 at h
  refine iq_G_go (k := 1) (σ' := (24, [some (.ref 76), some (.int x1), none], [.int (1 : Int32), .int s1, .ref 76], (iq_sh l, I, J, X))) (fun _ => rfl) ?_
  obtain ⟨q2, hq2, h⟩ := iq_bnd h
  refine iq_G_call (σ' := (27, [some (.ref 76), some (.int x1), none], [.int q2.1], (iq_sh l, q2.2, J, X))) (fun _ => rfl) (zM_right_ok l s1 (1 : Int32) I J X hq2) rfl rfl ?_
  rcases iq_ite h with ⟨hc_, h⟩ | ⟨hc_, h⟩
  · refine iq_G_pos (c := ¬ q2.1 = 0) (σ1 := (32, [some (.ref 76), some (.int x1), none], [], (iq_sh l, q2.2, J, X))) (fun _ => rfl) hc_ ?_
    refine iq_G_go (k := 2) (σ' := (34, [some (.ref 76), some (.int x1), none], [.int (0 : Int32), .ref 76], (iq_sh l, q2.2, J, X))) (fun _ => rfl) ?_
    refine iq_G_go (k := 1) (σ' := (37, [some (.ref 76), some (.int x1), none], [], (iq_sh l, (iq_upI q2.2 76 17 (0 : Int32)), J, X))) (fun _ => rfl) ?_
    obtain ⟨I3, eI3, h⟩ := ir_letG h
    rw [← eI3]
    clear eI3
    refine iq_G_go (k := 2) (σ' := (39, [some (.ref 76), some (.int x1), none], [.int (-1 : Int32), .ref 76], (iq_sh l, I3, J, X))) (fun _ => rfl) ?_
    refine iq_G_go (k := 1) (σ' := (42, [some (.ref 76), some (.int x1), none], [], (iq_sh l, (iq_upI I3 76 19 (-1 : Int32)), J, X))) (fun _ => rfl) ?_
    obtain ⟨I4, eI4, h⟩ := ir_letG h
    rw [← eI4]
    clear eI4
    refine iq_G_go (k := 2) (σ' := (44, [some (.ref 76), some (.int x1), none], [.int (0 : Int32), .ref 76], (iq_sh l, I4, J, X))) (fun _ => rfl) ?_
    refine iq_G_go (k := 1) (σ' := (47, [some (.ref 76), some (.int x1), none], [], (iq_sh l, (iq_upI I4 76 18 (0 : Int32)), J, X))) (fun _ => rfl) ?_
    obtain ⟨I5, eI5, h⟩ := ir_letG h
    rw [← eI5]
    clear eI5
    refine iq_G_go (k := 2) (σ' := (49, [some (.ref 76), some (.int x1), none], [.int x1, .ref 76], (iq_sh l, I5, J, X))) (fun _ => rfl) ?_
    refine iq_G_go (k := 1) (σ' := (52, [some (.ref 76), some (.int x1), none], [], (iq_sh l, (iq_upI I5 76 21 x1), J, X))) (fun _ => rfl) ?_
    obtain ⟨I6, eI6, h⟩ := ir_letG h
    rw [← eI6]
    clear eI6
    refine iq_G_go (k := 2) (σ' := (54, [some (.ref 76), some (.int x1), none], [.int (0 : Int32), .ref 76], (iq_sh l, I6, J, X))) (fun _ => rfl) ?_
    refine iq_G_go (k := 1) (σ' := (57, [some (.ref 76), some (.int x1), none], [], (iq_sh l, (iq_upI I6 76 22 (0 : Int32)), J, X))) (fun _ => rfl) ?_
    obtain ⟨I7, eI7, h⟩ := ir_letG h
    rw [← eI7]
    clear eI7
    refine iq_G_go (k := 2) (σ' := (59, [some (.ref 76), some (.int x1), none], [.int (0 : Int32), .ref 76], (iq_sh l, I7, J, X))) (fun _ => rfl) ?_
    refine iq_G_go (k := 1) (σ' := (62, [some (.ref 76), some (.int x1), none], [], (iq_sh l, (iq_upI I7 76 29 (0 : Int32)), J, X))) (fun _ => rfl) ?_
    obtain ⟨I8, eI8, h⟩ := ir_letG h
    rw [← eI8]
    clear eI8
    refine iq_G_go (k := 2) (σ' := (64, [some (.ref 76), some (.int x1), none], [.int (0 : Int32), .ref 76], (iq_sh l, I8, J, X))) (fun _ => rfl) ?_
    refine iq_G_go (k := 1) (σ' := (67, [some (.ref 76), some (.int x1), none], [], (iq_sh l, (iq_upI I8 76 30 (0 : Int32)), J, X))) (fun _ => rfl) ?_
    obtain ⟨I9, eI9, h⟩ := ir_letG h
    rw [← eI9]
    clear eI9
    refine iq_G_go (k := 2) (σ' := (69, [some (.ref 76), some (.int x1), none], [.int (0 : Int32), .ref 76], (iq_sh l, I9, J, X))) (fun _ => rfl) ?_
    refine iq_G_go (k := 1) (σ' := (72, [some (.ref 76), some (.int x1), none], [], (iq_sh l, (iq_upI I9 76 31 (0 : Int32)), J, X))) (fun _ => rfl) ?_
    obtain ⟨I10, eI10, h⟩ := ir_letG h
    rw [← eI10]
    clear eI10
    refine iq_G_go (k := 2) (σ' := (74, [some (.ref 76), some (.int x1), none], [.int (0 : Int32), .ref 76], (iq_sh l, I10, J, X))) (fun _ => rfl) ?_
    refine iq_G_go (k := 1) (σ' := (77, [some (.ref 76), some (.int x1), none], [], (iq_sh l, (iq_upI I10 76 32 (0 : Int32)), J, X))) (fun _ => rfl) ?_
    obtain ⟨I11, eI11, h⟩ := ir_letG h
    rw [← eI11]
    clear eI11
    refine iq_G_go (k := 2) (σ' := (79, [some (.ref 76), some (.int x1), none], [.int (0 : Int32), .ref 76], (iq_sh l, I11, J, X))) (fun _ => rfl) ?_
    refine iq_G_go (k := 1) (σ' := (82, [some (.ref 76), some (.int x1), none], [], (iq_sh l, (iq_upI I11 76 33 (0 : Int32)), J, X))) (fun _ => rfl) ?_
    obtain ⟨I12, eI12, h⟩ := ir_letG h
    rw [← eI12]
    clear eI12
    refine iq_G_go (k := 2) (σ' := (84, [some (.ref 76), some (.int x1), none], [.int (-1 : Int32), .ref 76], (iq_sh l, I12, J, X))) (fun _ => rfl) ?_
    refine iq_G_go (k := 1) (σ' := (87, [some (.ref 76), some (.int x1), none], [], (iq_sh l, (iq_upI I12 76 34 (-1 : Int32)), J, X))) (fun _ => rfl) ?_
    obtain ⟨I13, eI13, h⟩ := ir_letG h
    rw [← eI13]
    clear eI13
    refine iq_G_go (k := 2) (σ' := (89, [some (.ref 76), some (.int x1), none], [.int (0 : Int32), .ref 76], (iq_sh l, I13, J, X))) (fun _ => rfl) ?_
    refine iq_G_go (k := 1) (σ' := (92, [some (.ref 76), some (.int x1), none], [], (iq_sh l, (iq_upI I13 76 35 (0 : Int32)), J, X))) (fun _ => rfl) ?_
    obtain ⟨I14, eI14, h⟩ := ir_letG h
    rw [← eI14]
    clear eI14
    refine iq_G_go (k := 2) (σ' := (94, [some (.ref 76), some (.int x1), none], [.int (0 : Int32), .ref 76], (iq_sh l, I14, J, X))) (fun _ => rfl) ?_
    refine iq_G_go (k := 1) (σ' := (97, [some (.ref 76), some (.int x1), none], [], (iq_sh l, (iq_upI I14 76 36 (0 : Int32)), J, X))) (fun _ => rfl) ?_
    obtain ⟨I15, eI15, h⟩ := ir_letG h
    rw [← eI15]
    clear eI15
    refine iq_G_go (k := 2) (σ' := (99, [some (.ref 76), some (.int x1), none], [.int (0 : Int32), .ref 76], (iq_sh l, I15, J, X))) (fun _ => rfl) ?_
    refine iq_G_go (k := 1) (σ' := (102, [some (.ref 76), some (.int x1), none], [], (iq_sh l, (iq_upI I15 76 37 (0 : Int32)), J, X))) (fun _ => rfl) ?_
    obtain ⟨I16, eI16, h⟩ := ir_letG h
    rw [← eI16]
    clear eI16
    refine iq_G_go (k := 2) (σ' := (104, [some (.ref 76), some (.int x1), some (.int (0 : Int32))], [], (iq_sh l, I16, J, X))) (fun _ => rfl) ?_
    obtain ⟨w18, hw18, h⟩ := iq_bnd h
    refine iq_G_fg (L := [some (.ref 76), none, some (.int (0 : Int32))]) (And.intro rfl (And.intro rfl trivial)) ?_
    refine zM_museum_l104_ok l J X hw18 _ ?_
    show iq_Gg 7 238 (123, [some (.ref 76), none, none], [], (iq_sh l, w18, J, X)) _
    refine iq_G_go (k := 2) (σ' := (125, [some (.ref 76), none, some (.int (0 : Int32))], [], (iq_sh l, w18, J, X))) (fun _ => rfl) ?_
    obtain ⟨w20, hw20, h⟩ := iq_bnd h
    refine iq_G_fg (L := [some (.ref 76), none, some (.int (0 : Int32))]) (And.intro rfl (And.intro rfl trivial)) ?_
    refine zM_museum_l125_ok l J X hw20 _ ?_
    show iq_Gg 7 238 (144, [some (.ref 76), none, none], [], (iq_sh l, w20, J, X)) _
    refine iq_G_go (k := 4) (σ' := (150, [some (.ref 76), none, none], [.int (0 : Int32), .int (5 : Int32), .ref 94], (iq_sh l, w20, J, X))) (fun _ => rfl) ?_
    refine iq_G_go (k := 1) (σ' := (151, [some (.ref 76), none, none], [], (iq_sh l, (iq_upI w20 94 5 (0 : Int32)), J, X))) (fun _ => rfl) ?_
    obtain ⟨I21, eI21, h⟩ := ir_letG h
    rw [← eI21]
    clear eI21
    refine iq_G_go (k := 1) (σ' := (152, [some (.ref 76), none, none], [.ref 76], (iq_sh l, I21, J, X))) (fun _ => rfl) ?_
    obtain ⟨q22, hq22, h⟩ := iq_bnd h
    refine iq_G_call (σ' := (155, [some (.ref 76), none, none], [], (iq_sh l, q22.1, q22.2, X))) (fun _ => rfl) (zM_goes_ok l  I21 J X hq22) rfl rfl ?_
    obtain ⟨w25, hw25, h⟩ := iq_bnd h
    refine iq_G_fg (L := [some (.ref 76), none, none]) (And.intro rfl trivial) ?_
    refine zM_museum_l155_ok l X hw25 _ ?_
    show iq_Gg 7 238 (176, [some (.ref 76), none, none], [], (iq_sh l, w25.1, w25.2, X)) _
    exact iq_G_fg (L := [some (.ref 76), none, none]) (And.intro rfl trivial) (zM_museum_176_ok l w25.1 w25.2 X  h )
  · refine iq_G_neg (c := ¬ q2.1 = 0) (σ1 := (30, [some (.ref 76), some (.int x1), none], [], (iq_sh l, q2.2, J, X))) (fun _ => rfl) hc_ ?_
    refine iq_G_go (k := 1) (σ' := (31, [some (.ref 76), some (.int x1), none], [.int (0 : Int32)], (iq_sh l, q2.2, J, X))) (fun _ => rfl) ?_
    cases h
    exact iq_G_ret (fun _ => rfl)
set_option maxRecDepth 100000 in
theorem zM_museum_22_ok (l : Nat)  (x1 : Int32) (I : iq_I) (J : iq_J) (X : iq_X)  {q : Int32 × iq_I × iq_J} (h : zM_museum_22 x1 I J = some q)  : iq_Gg 7 238 (22, [some (.ref 76), some (.int x1), none], [.ref 76], (iq_sh l, I, J, X)) (.inl (some (.int q.1)), (iq_sh l, q.2.1, q.2.2, X)) := by
  unfold zM_museum_22 at h
  refine iq_G_go (k := 1) (σ' := (23, [some (.ref 76), some (.int x1), none], [.int (0 : Int32), .ref 76], (iq_sh l, I, J, X))) (fun _ => rfl) ?_
  exact iq_G_fg (L := [some (.ref 76), some (.int x1), none]) (And.intro rfl (And.intro rfl trivial)) (zM_museum_23_ok l x1 (0 : Int32) I J X  h )
set_option maxRecDepth 100000 in
theorem zM_museum_ok (l : Nat)  (x1 : Int32) (I : iq_I) (J : iq_J) (X : iq_X) {q : Int32 × iq_I × iq_J} (h : zM_museum x1 I J = some q) : iq_Cc 8 238 [.ref 76, .int x1] (iq_sh l, I, J, X) (.inl (some (.int q.1)), (iq_sh l, q.2.1, q.2.2, X)) := by
  refine iq_Cc_of (L := [some (.ref 76), some (.int x1), none]) rfl rfl ?_
  unfold zM_museum at h
  refine iq_G_go (k := 2) (σ' := (2, [some (.ref 76), some (.int x1), none], [.int (0 : Int32), .ref 76], (iq_sh l, I, J, X))) (fun _ => rfl) ?_
  refine iq_G_go (k := 1) (σ' := (5, [some (.ref 76), some (.int x1), none], [], (iq_sh l, (iq_upI I 76 0 (0 : Int32)), J, X))) (fun _ => rfl) ?_
  obtain ⟨I1, eI1, h⟩ := ir_letG h
  rw [← eI1]
  clear eI1
  refine iq_G_go (k := 2) (σ' := (7, [some (.ref 76), some (.int x1), none], [.int x1, .ref 76], (iq_sh l, I1, J, X))) (fun _ => rfl) ?_
  rcases iq_ite h with ⟨hc_, h⟩ | ⟨hc_, h⟩
  · refine iq_G_pos (c := x1 < 0) (σ1 := (22, [some (.ref 76), some (.int x1), none], [.ref 76], (iq_sh l, I1, J, X))) (fun _ => rfl) hc_ ?_
    exact iq_G_fg (L := [some (.ref 76), some (.int x1), none]) (And.intro rfl (And.intro rfl trivial)) (zM_museum_22_ok l x1 I1 J X  h )
  · refine iq_G_neg (c := x1 < 0) (σ1 := (10, [some (.ref 76), some (.int x1), none], [.ref 76], (iq_sh l, I1, J, X))) (fun _ => rfl) hc_ ?_
    refine iq_G_go (k := 3) (σ' := (15, [some (.ref 76), some (.int x1), none], [.int (I1 76 17), .int x1, .ref 76], (iq_sh l, I1, J, X))) (fun _ => rfl) ?_
    rcases iq_ite h with ⟨hc_, h⟩ | ⟨hc_, h⟩
    · refine iq_G_pos (c := (I1 76 17) < x1) (σ1 := (22, [some (.ref 76), some (.int x1), none], [.ref 76], (iq_sh l, I1, J, X))) (fun _ => rfl) hc_ ?_
      exact iq_G_fg (L := [some (.ref 76), some (.int x1), none]) (And.intro rfl (And.intro rfl trivial)) (zM_museum_22_ok l x1 I1 J X  h )
    · refine iq_G_neg (c := (I1 76 17) < x1) (σ1 := (18, [some (.ref 76), some (.int x1), none], [.ref 76], (iq_sh l, I1, J, X))) (fun _ => rfl) hc_ ?_
      refine iq_G_go (k := 2) (σ' := (23, [some (.ref 76), some (.int x1), none], [.int (1 : Int32), .ref 76], (iq_sh l, I1, J, X))) (fun _ => rfl) ?_
      exact iq_G_fg (L := [some (.ref 76), some (.int x1), none]) (And.intro rfl (And.intro rfl trivial)) (zM_museum_23_ok l x1 (1 : Int32) I1 J X  h )
set_option maxRecDepth 100000 in
theorem zO_tapeNumber_l3_bok (l : Nat)  (x1 : Int32) (J : iq_J) (X : iq_X) (x2 : Int32) (I : iq_I) {q : (Int32 × iq_I) ⊕ (iq_I)} (h : zO_tapeNumber_l3_b x1 x2 I = some q) (r : iq_R × iq_M) (hc : ∀ v, q = .inl v → iq_Gg 0 190 (3, [some (.ref 1), some (.int x1), some (.int v.1)], [], (iq_sh l, v.2, J, X)) r) (hx : ∀ w, q = .inr w → iq_Gg 0 190 (49, [none, none, none], [], (iq_sh l, w, J, X)) r) : iq_Gg 0 190 (3, [some (.ref 1), some (.int x1), some (.int x2)], [], (iq_sh l, I, J, X)) r := by
  unfold zO_tapeNumber_l3_b at h
  refine iq_G_go (k := 1) (σ' := (4, [some (.ref 1), some (.int x1), some (.int x2)], [.int x2], (iq_sh l, I, J, X))) (fun _ => rfl) ?_
  rcases iq_ite h with ⟨hc_, h⟩ | ⟨hc_, h⟩
  · refine iq_G_pos (c := x2 < 0) (σ1 := (49, [some (.ref 1), some (.int x1), some (.int x2)], [], (iq_sh l, I, J, X))) (fun _ => rfl) hc_ ?_
    cases h
    exact iq_G_fg (L := [none, none, none]) trivial (hx I rfl)
  · refine iq_G_neg (c := x2 < 0) (σ1 := (7, [some (.ref 1), some (.int x1), some (.int x2)], [], (iq_sh l, I, J, X))) (fun _ => rfl) hc_ ?_
    refine iq_G_go (k := 3) (σ' := (14, [some (.ref 1), some (.int x1), some (.int x2)], [.int (700 : Int32), .int (I 1 11)], (iq_sh l, I, J, X))) (fun _ => rfl) ?_
    rcases iq_ite h with ⟨hc_, h⟩ | ⟨hc_, h⟩
    · refine iq_G_pos (c := (700 : Int32) ≤ (I 1 11)) (σ1 := (43, [some (.ref 1), some (.int x1), some (.int x2)], [], (iq_sh l, I, J, X))) (fun _ => rfl) hc_ ?_
      refine iq_G_go (k := 2) (σ' := (3, [some (.ref 1), some (.int x1), some (.int (x2 + (-8 : Int32)))], [], (iq_sh l, I, J, X))) (fun _ => rfl) ?_
      cases h
      exact iq_G_fg (L := [some (.ref 1), some (.int x1), some (.int (x2 + (-8 : Int32)))]) (And.intro rfl (And.intro rfl (And.intro rfl trivial))) (hc ((x2 + (-8 : Int32)), I) rfl)
    · refine iq_G_neg (c := (700 : Int32) ≤ (I 1 11)) (σ1 := (17, [some (.ref 1), some (.int x1), some (.int x2)], [], (iq_sh l, I, J, X))) (fun _ => rfl) hc_ ?_
      refine iq_G_go (k := 9) (σ' := (32, [some (.ref 1), some (.int x1), some (.int x2)], [.int ((ir_ushr x1 x2) &&& (255 : Int32)), .int (I 1 11), .ref 2], (iq_sh l, I, J, X))) (fun _ => rfl) ?_
      obtain ⟨hc_, h⟩ := iq_itn h
      refine iq_G_pos (c := iq_in (I 1 11) 700) (σ1 := (33, [some (.ref 1), some (.int x1), some (.int x2)], [], (iq_sh l, (iq_upI I 2 (Int32.toNatClampNeg (I 1 11)) ((ir_ushr x1 x2) &&& (255 : Int32))), J, X))) (fun _ => rfl) hc_ ?_
      obtain ⟨I1, eI1, h⟩ := ir_letG h
      rw [← eI1]
      clear eI1
      refine iq_G_go (k := 5) (σ' := (40, [some (.ref 1), some (.int x1), some (.int x2)], [.int ((I1 1 11) + (1 : Int32)), .ref 1], (iq_sh l, I1, J, X))) (fun _ => rfl) ?_
      refine iq_G_go (k := 1) (σ' := (43, [some (.ref 1), some (.int x1), some (.int x2)], [], (iq_sh l, (iq_upI I1 1 11 ((I1 1 11) + (1 : Int32))), J, X))) (fun _ => rfl) ?_
      obtain ⟨I2, eI2, h⟩ := ir_letG h
      rw [← eI2]
      clear eI2
      refine iq_G_go (k := 2) (σ' := (3, [some (.ref 1), some (.int x1), some (.int (x2 + (-8 : Int32)))], [], (iq_sh l, I2, J, X))) (fun _ => rfl) ?_
      cases h
      exact iq_G_fg (L := [some (.ref 1), some (.int x1), some (.int (x2 + (-8 : Int32)))]) (And.intro rfl (And.intro rfl (And.intro rfl trivial))) (hc ((x2 + (-8 : Int32)), I2) rfl)
set_option maxRecDepth 100000 in
theorem zO_tapeNumber_l3_ok (l : Nat)  (x1 : Int32) (J : iq_J) (X : iq_X) {n : Nat} {v : Int32 × iq_I} {w : iq_I} (h : zO_tapeNumber_l3 x1 n v = some w) (r : iq_R × iq_M) (hq : iq_Gg 0 190 (49, [none, none, none], [], (iq_sh l, w, J, X)) r) : iq_Gg 0 190 (3, [some (.ref 1), some (.int x1), some (.int v.1)], [], (iq_sh l, v.2, J, X)) r :=
  iq_lp_ok (σ := fun v => (3, [some (.ref 1), some (.int x1), some (.int v.1)], [], (iq_sh l, v.2, J, X))) (Q := fun w r => iq_Gg 0 190 (49, [none, none, none], [], (iq_sh l, w, J, X)) r) (fun v q hv r h1 h2 => zO_tapeNumber_l3_bok l x1 J X v.1 v.2 hv r h1 h2) h r hq
set_option maxRecDepth 100000 in
theorem zO_tapeNumber_ok (l : Nat)  (x1 : Int32) (I : iq_I) (J : iq_J) (X : iq_X) {q : iq_I} (h : zO_tapeNumber x1 I = some q) : iq_Cc 1 190 [.ref 1, .int x1] (iq_sh l, I, J, X) (.inl none, (iq_sh l, q, J, X)) := by
  refine iq_Cc_of (L := [some (.ref 1), some (.int x1), none]) rfl rfl ?_
  unfold zO_tapeNumber at h
  refine iq_G_go (k := 2) (σ' := (3, [some (.ref 1), some (.int x1), some (.int (24 : Int32))], [], (iq_sh l, I, J, X))) (fun _ => rfl) ?_
  obtain ⟨w3, hw3, h⟩ := iq_bnd h
  refine iq_G_fg (L := [some (.ref 1), some (.int x1), some (.int (24 : Int32))]) (And.intro rfl (And.intro rfl (And.intro rfl trivial))) ?_
  refine zO_tapeNumber_l3_ok l x1 J X hw3 _ ?_
  show iq_Gg 0 190 (49, [none, none, none], [], (iq_sh l, w3, J, X)) _
  cases h
  exact iq_G_ret (fun _ => rfl)
set_option maxRecDepth 100000 in
theorem zO_feed_ok (l : Nat)  (x1 : Int32) (x2 : Int32) (x3 : Int32) (x4 : Int32) (x5 : Int32) (I : iq_I) (J : iq_J) (X : iq_X) {q : Int32 × iq_I} (h : zO_feed x1 x2 x3 x4 x5 I = some q) : iq_Cc 2 149 [.ref 1, .int x1, .int x2, .int x3, .int x4, .int x5] (iq_sh l, I, J, X) (.inl (some (.int q.1)), (iq_sh l, q.2, J, X)) := by
  refine iq_Cc_of (L := [some (.ref 1), some (.int x1), some (.int x2), some (.int x3), some (.int x4), some (.int x5)]) rfl rfl ?_
  unfold zO_feed at h
  refine iq_G_go (k := 5) (σ' := (10, [some (.ref 1), some (.int x1), some (.int x2), some (.int x3), some (.int x4), some (.int x5)], [.int (700 : Int32), .int ((I 1 11) + (20 : Int32))], (iq_sh l, I, J, X))) (fun _ => rfl) ?_
  rcases iq_ite h with ⟨hc_, h⟩ | ⟨hc_, h⟩
  · refine iq_G_pos (c := ((I 1 11) + (20 : Int32)) ≤ (700 : Int32)) (σ1 := (15, [some (.ref 1), some (.int x1), some (.int x2), some (.int x3), some (.int x4), some (.int x5)], [], (iq_sh l, I, J, X))) (fun _ => rfl) hc_ ?_
    refine iq_G_go (k := 2) (σ' := (17, [some (.ref 1), some (.int x1), some (.int x2), some (.int x3), some (.int x4), some (.int x5)], [.int x1, .ref 1], (iq_sh l, I, J, X))) (fun _ => rfl) ?_
    obtain ⟨q1, hq1, h⟩ := iq_bnd h
    refine iq_G_call (σ' := (20, [some (.ref 1), some (.int x1), some (.int x2), some (.int x3), some (.int x4), some (.int x5)], [], (iq_sh l, q1, J, X))) (fun _ => rfl) (zO_tapeNumber_ok l x1 I J X hq1) rfl rfl ?_
    refine iq_G_go (k := 2) (σ' := (22, [some (.ref 1), some (.int x1), some (.int x2), some (.int x3), some (.int x4), some (.int x5)], [.int x2, .ref 1], (iq_sh l, q1, J, X))) (fun _ => rfl) ?_
    obtain ⟨q2, hq2, h⟩ := iq_bnd h
    refine iq_G_call (σ' := (25, [some (.ref 1), some (.int x1), some (.int x2), some (.int x3), some (.int x4), some (.int x5)], [], (iq_sh l, q2, J, X))) (fun _ => rfl) (zO_tapeNumber_ok l x2 q1 J X hq2) rfl rfl ?_
    refine iq_G_go (k := 2) (σ' := (27, [some (.ref 1), some (.int x1), some (.int x2), some (.int x3), some (.int x4), some (.int x5)], [.int x3, .ref 1], (iq_sh l, q2, J, X))) (fun _ => rfl) ?_
    obtain ⟨q3, hq3, h⟩ := iq_bnd h
    refine iq_G_call (σ' := (30, [some (.ref 1), some (.int x1), some (.int x2), some (.int x3), some (.int x4), some (.int x5)], [], (iq_sh l, q3, J, X))) (fun _ => rfl) (zO_tapeNumber_ok l x3 q2 J X hq3) rfl rfl ?_
    refine iq_G_go (k := 2) (σ' := (33, [some (.ref 1), some (.int x1), some (.int x2), some (.int x3), some (.int x4), some (.int x5)], [.int x4, .ref 1], (iq_sh l, q3, J, X))) (fun _ => rfl) ?_
    obtain ⟨q4, hq4, h⟩ := iq_bnd h
    refine iq_G_call (σ' := (36, [some (.ref 1), some (.int x1), some (.int x2), some (.int x3), some (.int x4), some (.int x5)], [], (iq_sh l, q4, J, X))) (fun _ => rfl) (zO_tapeNumber_ok l x4 q3 J X hq4) rfl rfl ?_
    refine iq_G_go (k := 2) (σ' := (39, [some (.ref 1), some (.int x1), some (.int x2), some (.int x3), some (.int x4), some (.int x5)], [.int x5, .ref 1], (iq_sh l, q4, J, X))) (fun _ => rfl) ?_
    obtain ⟨q5, hq5, h⟩ := iq_bnd h
    refine iq_G_call (σ' := (42, [some (.ref 1), some (.int x1), some (.int x2), some (.int x3), some (.int x4), some (.int x5)], [], (iq_sh l, q5, J, X))) (fun _ => rfl) (zO_tapeNumber_ok l x5 q4 J X hq5) rfl rfl ?_
    refine iq_G_go (k := 2) (σ' := (46, [some (.ref 1), some (.int x1), some (.int x2), some (.int x3), some (.int x4), some (.int x5)], [.int (q5 1 11)], (iq_sh l, q5, J, X))) (fun _ => rfl) ?_
    cases h
    exact iq_G_ret (fun _ => rfl)
  · refine iq_G_neg (c := ((I 1 11) + (20 : Int32)) ≤ (700 : Int32)) (σ1 := (13, [some (.ref 1), some (.int x1), some (.int x2), some (.int x3), some (.int x4), some (.int x5)], [], (iq_sh l, I, J, X))) (fun _ => rfl) hc_ ?_
    refine iq_G_go (k := 1) (σ' := (14, [some (.ref 1), some (.int x1), some (.int x2), some (.int x3), some (.int x4), some (.int x5)], [.int (-1 : Int32)], (iq_sh l, I, J, X))) (fun _ => rfl) ?_
    cases h
    exact iq_G_ret (fun _ => rfl)
set_option maxRecDepth 100000 in
theorem zM_lays_l3_bok (l : Nat)  (x1 : Int32) (J : iq_J) (X : iq_X) (x2 : Int32) (I : iq_I) {q : (Int32 × iq_I) ⊕ (iq_I)} (h : zM_lays_l3_b x1 x2 I = some q) (r : iq_R × iq_M) (hc : ∀ v, q = .inl v → iq_Gg 0 206 (3, [some (.ref 76), some (.int x1), some (.int v.1)], [], (iq_sh l, v.2, J, X)) r) (hx : ∀ w, q = .inr w → iq_Gg 0 206 (39, [none, none, none], [], (iq_sh l, w, J, X)) r) : iq_Gg 0 206 (3, [some (.ref 76), some (.int x1), some (.int x2)], [], (iq_sh l, I, J, X)) r := by
  unfold zM_lays_l3_b at h
  refine iq_G_go (k := 1) (σ' := (4, [some (.ref 76), some (.int x1), some (.int x2)], [.int x2], (iq_sh l, I, J, X))) (fun _ => rfl) ?_
  rcases iq_ite h with ⟨hc_, h⟩ | ⟨hc_, h⟩
  · refine iq_G_pos (c := x2 < 0) (σ1 := (39, [some (.ref 76), some (.int x1), some (.int x2)], [], (iq_sh l, I, J, X))) (fun _ => rfl) hc_ ?_
    cases h
    exact iq_G_fg (L := [none, none, none]) trivial (hx I rfl)
  · refine iq_G_neg (c := x2 < 0) (σ1 := (7, [some (.ref 76), some (.int x1), some (.int x2)], [], (iq_sh l, I, J, X))) (fun _ => rfl) hc_ ?_
    refine iq_G_go (k := 9) (σ' := (22, [some (.ref 76), some (.int x1), some (.int x2)], [.int ((x1 >>> (x2 &&& 31)) &&& (255 : Int32)), .int (I 76 17), .ref 85], (iq_sh l, I, J, X))) (fun _ => rfl) ?_
    obtain ⟨hc_, h⟩ := iq_itn h
    refine iq_G_pos (c := iq_in (I 76 17) 700) (σ1 := (23, [some (.ref 76), some (.int x1), some (.int x2)], [], (iq_sh l, (iq_upI I 85 (Int32.toNatClampNeg (I 76 17)) ((x1 >>> (x2 &&& 31)) &&& (255 : Int32))), J, X))) (fun _ => rfl) hc_ ?_
    obtain ⟨I1, eI1, h⟩ := ir_letG h
    rw [← eI1]
    clear eI1
    refine iq_G_go (k := 5) (σ' := (30, [some (.ref 76), some (.int x1), some (.int x2)], [.int ((I1 76 17) + (1 : Int32)), .ref 76], (iq_sh l, I1, J, X))) (fun _ => rfl) ?_
    refine iq_G_go (k := 1) (σ' := (33, [some (.ref 76), some (.int x1), some (.int x2)], [], (iq_sh l, (iq_upI I1 76 17 ((I1 76 17) + (1 : Int32))), J, X))) (fun _ => rfl) ?_
    obtain ⟨I2, eI2, h⟩ := ir_letG h
    rw [← eI2]
    clear eI2
    refine iq_G_go (k := 2) (σ' := (3, [some (.ref 76), some (.int x1), some (.int (x2 + (-8 : Int32)))], [], (iq_sh l, I2, J, X))) (fun _ => rfl) ?_
    cases h
    exact iq_G_fg (L := [some (.ref 76), some (.int x1), some (.int (x2 + (-8 : Int32)))]) (And.intro rfl (And.intro rfl (And.intro rfl trivial))) (hc ((x2 + (-8 : Int32)), I2) rfl)
set_option maxRecDepth 100000 in
theorem zM_lays_l3_ok (l : Nat)  (x1 : Int32) (J : iq_J) (X : iq_X) {n : Nat} {v : Int32 × iq_I} {w : iq_I} (h : zM_lays_l3 x1 n v = some w) (r : iq_R × iq_M) (hq : iq_Gg 0 206 (39, [none, none, none], [], (iq_sh l, w, J, X)) r) : iq_Gg 0 206 (3, [some (.ref 76), some (.int x1), some (.int v.1)], [], (iq_sh l, v.2, J, X)) r :=
  iq_lp_ok (σ := fun v => (3, [some (.ref 76), some (.int x1), some (.int v.1)], [], (iq_sh l, v.2, J, X))) (Q := fun w r => iq_Gg 0 206 (39, [none, none, none], [], (iq_sh l, w, J, X)) r) (fun v q hv r h1 h2 => zM_lays_l3_bok l x1 J X v.1 v.2 hv r h1 h2) h r hq
set_option maxRecDepth 100000 in
theorem zM_lays_ok (l : Nat)  (x1 : Int32) (I : iq_I) (J : iq_J) (X : iq_X) {q : iq_I} (h : zM_lays x1 I = some q) : iq_Cc 1 206 [.ref 76, .int x1] (iq_sh l, I, J, X) (.inl none, (iq_sh l, q, J, X)) := by
  refine iq_Cc_of (L := [some (.ref 76), some (.int x1), none]) rfl rfl ?_
  unfold zM_lays at h
  refine iq_G_go (k := 2) (σ' := (3, [some (.ref 76), some (.int x1), some (.int (24 : Int32))], [], (iq_sh l, I, J, X))) (fun _ => rfl) ?_
  obtain ⟨w3, hw3, h⟩ := iq_bnd h
  refine iq_G_fg (L := [some (.ref 76), some (.int x1), some (.int (24 : Int32))]) (And.intro rfl (And.intro rfl (And.intro rfl trivial))) ?_
  refine zM_lays_l3_ok l x1 J X hw3 _ ?_
  show iq_Gg 0 206 (39, [none, none, none], [], (iq_sh l, w3, J, X)) _
  cases h
  exact iq_G_ret (fun _ => rfl)
set_option maxRecDepth 100000 in
theorem zM_feed_ok (l : Nat)  (x1 : Int32) (x2 : Int32) (x3 : Int32) (x4 : Int32) (x5 : Int32) (I : iq_I) (J : iq_J) (X : iq_X) {q : Int32 × iq_I} (h : zM_feed x1 x2 x3 x4 x5 I = some q) : iq_Cc 2 205 [.ref 76, .int x1, .int x2, .int x3, .int x4, .int x5] (iq_sh l, I, J, X) (.inl (some (.int q.1)), (iq_sh l, q.2, J, X)) := by
  refine iq_Cc_of (L := [some (.ref 76), some (.int x1), some (.int x2), some (.int x3), some (.int x4), some (.int x5)]) rfl rfl ?_
  unfold zM_feed at h
  refine iq_G_go (k := 2) (σ' := (2, [some (.ref 76), some (.int x1), some (.int x2), some (.int x3), some (.int x4), some (.int x5)], [.int (0 : Int32), .ref 76], (iq_sh l, I, J, X))) (fun _ => rfl) ?_
  refine iq_G_go (k := 1) (σ' := (5, [some (.ref 76), some (.int x1), some (.int x2), some (.int x3), some (.int x4), some (.int x5)], [], (iq_sh l, (iq_upI I 76 0 (0 : Int32)), J, X))) (fun _ => rfl) ?_
  obtain ⟨I1, eI1, h⟩ := ir_letG h
  rw [← eI1]
  clear eI1
  refine iq_G_go (k := 5) (σ' := (15, [some (.ref 76), some (.int x1), some (.int x2), some (.int x3), some (.int x4), some (.int x5)], [.int (700 : Int32), .int ((I1 76 17) + (20 : Int32))], (iq_sh l, I1, J, X))) (fun _ => rfl) ?_
  rcases iq_ite h with ⟨hc_, h⟩ | ⟨hc_, h⟩
  · refine iq_G_pos (c := ((I1 76 17) + (20 : Int32)) ≤ (700 : Int32)) (σ1 := (20, [some (.ref 76), some (.int x1), some (.int x2), some (.int x3), some (.int x4), some (.int x5)], [], (iq_sh l, I1, J, X))) (fun _ => rfl) hc_ ?_
    refine iq_G_go (k := 2) (σ' := (22, [some (.ref 76), some (.int x1), some (.int x2), some (.int x3), some (.int x4), some (.int x5)], [.int x1, .ref 76], (iq_sh l, I1, J, X))) (fun _ => rfl) ?_
    obtain ⟨q2, hq2, h⟩ := iq_bnd h
    refine iq_G_call (σ' := (25, [some (.ref 76), some (.int x1), some (.int x2), some (.int x3), some (.int x4), some (.int x5)], [], (iq_sh l, q2, J, X))) (fun _ => rfl) (zM_lays_ok l x1 I1 J X hq2) rfl rfl ?_
    refine iq_G_go (k := 2) (σ' := (27, [some (.ref 76), some (.int x1), some (.int x2), some (.int x3), some (.int x4), some (.int x5)], [.int x2, .ref 76], (iq_sh l, q2, J, X))) (fun _ => rfl) ?_
    obtain ⟨q3, hq3, h⟩ := iq_bnd h
    refine iq_G_call (σ' := (30, [some (.ref 76), some (.int x1), some (.int x2), some (.int x3), some (.int x4), some (.int x5)], [], (iq_sh l, q3, J, X))) (fun _ => rfl) (zM_lays_ok l x2 q2 J X hq3) rfl rfl ?_
    refine iq_G_go (k := 2) (σ' := (32, [some (.ref 76), some (.int x1), some (.int x2), some (.int x3), some (.int x4), some (.int x5)], [.int x3, .ref 76], (iq_sh l, q3, J, X))) (fun _ => rfl) ?_
    obtain ⟨q4, hq4, h⟩ := iq_bnd h
    refine iq_G_call (σ' := (35, [some (.ref 76), some (.int x1), some (.int x2), some (.int x3), some (.int x4), some (.int x5)], [], (iq_sh l, q4, J, X))) (fun _ => rfl) (zM_lays_ok l x3 q3 J X hq4) rfl rfl ?_
    refine iq_G_go (k := 2) (σ' := (38, [some (.ref 76), some (.int x1), some (.int x2), some (.int x3), some (.int x4), some (.int x5)], [.int x4, .ref 76], (iq_sh l, q4, J, X))) (fun _ => rfl) ?_
    obtain ⟨q5, hq5, h⟩ := iq_bnd h
    refine iq_G_call (σ' := (41, [some (.ref 76), some (.int x1), some (.int x2), some (.int x3), some (.int x4), some (.int x5)], [], (iq_sh l, q5, J, X))) (fun _ => rfl) (zM_lays_ok l x4 q4 J X hq5) rfl rfl ?_
    refine iq_G_go (k := 2) (σ' := (44, [some (.ref 76), some (.int x1), some (.int x2), some (.int x3), some (.int x4), some (.int x5)], [.int x5, .ref 76], (iq_sh l, q5, J, X))) (fun _ => rfl) ?_
    obtain ⟨q6, hq6, h⟩ := iq_bnd h
    refine iq_G_call (σ' := (47, [some (.ref 76), some (.int x1), some (.int x2), some (.int x3), some (.int x4), some (.int x5)], [], (iq_sh l, q6, J, X))) (fun _ => rfl) (zM_lays_ok l x5 q5 J X hq6) rfl rfl ?_
    refine iq_G_go (k := 2) (σ' := (51, [some (.ref 76), some (.int x1), some (.int x2), some (.int x3), some (.int x4), some (.int x5)], [.int (q6 76 17)], (iq_sh l, q6, J, X))) (fun _ => rfl) ?_
    cases h
    exact iq_G_ret (fun _ => rfl)
  · refine iq_G_neg (c := ((I1 76 17) + (20 : Int32)) ≤ (700 : Int32)) (σ1 := (18, [some (.ref 76), some (.int x1), some (.int x2), some (.int x3), some (.int x4), some (.int x5)], [], (iq_sh l, I1, J, X))) (fun _ => rfl) hc_ ?_
    refine iq_G_go (k := 1) (σ' := (19, [some (.ref 76), some (.int x1), some (.int x2), some (.int x3), some (.int x4), some (.int x5)], [.int (-1 : Int32)], (iq_sh l, I1, J, X))) (fun _ => rfl) ?_
    cases h
    exact iq_G_ret (fun _ => rfl)

