/-! ===== the abstract machine does the same (printed by wip/whole/emitall.py, split.py) ===== -/
set_option maxRecDepth 100000 in
theorem zO_museum_12_ok (l : Nat)   (I : iq_I) (J : iq_J) (X : iq_X)  {q : (Int32 ⊕ Nat) × iq_I × iq_X} (h : zO_museum_12 I X = some q)  : iq_Gg 70 150 (12, [none, none, none], [], (iq_sh l, I, J, X)) ((ir_Ri q.1), (iq_sh l, q.2.1, J, q.2.2)) := by
  unfold zO_museum_12 at h
  cases h
  exact iq_G_ret (fun _ => rfl)
set_option maxRecDepth 100000 in
theorem zO_museum_ok (l : Nat)  (x1 : Int32) (I : iq_I) (J : iq_J) (X : iq_X) {q : (Int32 ⊕ Nat) × iq_I × iq_X} (h : zO_museum x1 I X = some q) : iq_Cc 71 150 [.ref 1, .int x1] (iq_sh l, I, J, X) ((ir_Ri q.1), (iq_sh l, q.2.1, J, q.2.2)) := by
  refine iq_Cc_of (L := [some (.ref 1), some (.int x1), none]) rfl rfl ?_
  unfold zO_museum at h
  refine iq_G_go (k := 1) (σ' := (1, [some (.ref 1), some (.int x1), none], [.int x1], (iq_sh l, I, J, X))) (fun _ => rfl) ?_
  rcases iq_ite h with ⟨hc_, h⟩ | ⟨hc_, h⟩
  · refine iq_G_pos (c := x1 < 0) (σ1 := (12, [some (.ref 1), some (.int x1), none], [], (iq_sh l, I, J, X))) (fun _ => rfl) hc_ ?_
    exact iq_G_fg (L := [none, none, none]) trivial (zO_museum_12_ok l I J X  h )
  · refine iq_G_neg (c := x1 < 0) (σ1 := (4, [some (.ref 1), some (.int x1), none], [], (iq_sh l, I, J, X))) (fun _ => rfl) hc_ ?_
    refine iq_G_go (k := 3) (σ' := (9, [some (.ref 1), some (.int x1), none], [.int (I 1 11), .int x1], (iq_sh l, I, J, X))) (fun _ => rfl) ?_
    rcases iq_ite h with ⟨hc_, h⟩ | ⟨hc_, h⟩
    · refine iq_G_pos (c := x1 ≤ (I 1 11)) (σ1 := (22, [some (.ref 1), some (.int x1), none], [], (iq_sh l, I, J, X))) (fun _ => rfl) hc_ ?_
      refine iq_G_go (k := 2) (σ' := (24, [some (.ref 1), some (.int x1), none], [.int (0 : Int32), .ref 1], (iq_sh l, I, J, X))) (fun _ => rfl) ?_
      refine iq_G_go (k := 1) (σ' := (27, [some (.ref 1), some (.int x1), none], [], (iq_sh l, (iq_upI I 1 11 (0 : Int32)), J, X))) (fun _ => rfl) ?_
      obtain ⟨I1, eI1, h⟩ := ir_letG h
      rw [← eI1]
      clear eI1
      refine iq_G_go (k := 3) (σ' := (32, [some (.ref 1), some (.int x1), none], [.int x1, .ref 61], (iq_sh l, I1, J, X))) (fun _ => rfl) ?_
      obtain ⟨q2, hq2, h⟩ := iq_bnd h
      refine iq_G_call (σ' := (35, [some (.ref 1), some (.int x1), none], [.int q2.1], (iq_sh l, q2.2, J, X))) (fun _ => rfl) (zR_read_ok l x1 I1 J X hq2) rfl rfl ?_
      refine iq_G_go (k := 2) (σ' := (37, [some (.ref 1), some (.int x1), some (.int q2.1)], [.int q2.1], (iq_sh l, q2.2, J, X))) (fun _ => rfl) ?_
      rcases iq_ite h with ⟨hc_, h⟩ | ⟨hc_, h⟩
      · refine iq_G_pos (c := q2.1 = 0) (σ1 := (63, [some (.ref 1), some (.int x1), some (.int q2.1)], [], (iq_sh l, q2.2, J, X))) (fun _ => rfl) hc_ ?_
        refine iq_G_go (k := 2) (σ' := (65, [some (.ref 1), some (.int x1), some (.int q2.1)], [.int (-1 : Int32), .ref 1], (iq_sh l, q2.2, J, X))) (fun _ => rfl) ?_
        refine iq_G_go (k := 1) (σ' := (68, [some (.ref 1), some (.int x1), some (.int q2.1)], [], (iq_sh l, (iq_upI q2.2 1 12 (-1 : Int32)), J, X))) (fun _ => rfl) ?_
        obtain ⟨I3, eI3, h⟩ := ir_letG h
        rw [← eI3]
        clear eI3
        refine iq_G_go (k := 4) (σ' := (76, [some (.ref 1), some (.int x1), some (.int q2.1)], [.ref 38, .ref 4], (iq_sh l, I3, J, X))) (fun _ => rfl) ?_
        obtain ⟨q4, hq4, h⟩ := iq_bnd h
        refine iq_G_call (σ' := (79, [some (.ref 1), some (.int x1), some (.int q2.1)], [], (iq_sh l, q4, J, X))) (fun _ => rfl) (zU_copyFrom_ok l  I3 J X hq4) rfl rfl ?_
        refine iq_G_go (k := 4) (σ' := (87, [some (.ref 1), some (.int x1), some (.int q2.1)], [.ref 50, .ref 16], (iq_sh l, q4, J, X))) (fun _ => rfl) ?_
        obtain ⟨q5, hq5, h⟩ := iq_bnd h
        refine iq_G_call (σ' := (90, [some (.ref 1), some (.int x1), some (.int q2.1)], [], (iq_sh l, q5, J, X))) (fun _ => rfl) (zG_copyFrom_16_50_ok l  q4 J X hq5) rfl rfl ?_
        refine iq_G_go (k := 2) (σ' := (92, [some (.ref 1), some (.int x1), some (.int q2.1)], [.int (0 : Int32), .ref 1], (iq_sh l, q5, J, X))) (fun _ => rfl) ?_
        refine iq_G_go (k := 1) (σ' := (95, [some (.ref 1), some (.int x1), some (.int q2.1)], [], (iq_sh l, (iq_upI q5 1 13 (0 : Int32)), J, X))) (fun _ => rfl) ?_
        obtain ⟨I6, eI6, h⟩ := ir_letG h
        rw [← eI6]
        clear eI6
        refine iq_G_go (k := 1) (σ' := (96, [some (.ref 1), some (.int x1), some (.int q2.1)], [.int (0 : Int32)], (iq_sh l, I6, J, X))) (fun _ => rfl) ?_
        cases h
        exact iq_G_ret (fun _ => rfl)
      · refine iq_G_neg (c := q2.1 = 0) (σ1 := (40, [some (.ref 1), some (.int x1), some (.int q2.1)], [], (iq_sh l, q2.2, J, X))) (fun _ => rfl) hc_ ?_
        refine iq_G_go (k := 4) (σ' := (48, [some (.ref 1), some (.int x1), some (.int q2.1)], [.int (q2.2 61 0), .ref 1], (iq_sh l, q2.2, J, X))) (fun _ => rfl) ?_
        refine iq_G_go (k := 1) (σ' := (51, [some (.ref 1), some (.int x1), some (.int q2.1)], [], (iq_sh l, (iq_upI q2.2 1 12 (q2.2 61 0)), J, X))) (fun _ => rfl) ?_
        obtain ⟨I7, eI7, h⟩ := ir_letG h
        rw [← eI7]
        clear eI7
        refine iq_G_go (k := 4) (σ' := (57, [some (.ref 1), some (.int x1), some (.int q2.1)], [.int (0 : Int32), .ref 3, .int (0 : Int32), .ref 3], (iq_sh l, I7, J, X))) (fun _ => rfl) ?_
        refine iq_G_go (k := 1) (σ' := (58, [some (.ref 1), some (.int x1), some (.int q2.1)], [.int (I7 3 0), .int (0 : Int32), .ref 3], (iq_sh l, I7, J, X))) (fun _ => rfl) ?_
        refine iq_G_go (k := 2) (σ' := (60, [some (.ref 1), some (.int x1), some (.int q2.1)], [.int ((I7 3 0) + (1 : Int32)), .int (0 : Int32), .ref 3], (iq_sh l, I7, J, X))) (fun _ => rfl) ?_
        refine iq_G_go (k := 1) (σ' := (61, [some (.ref 1), some (.int x1), some (.int q2.1)], [], (iq_sh l, (iq_upI I7 3 0 ((I7 3 0) + (1 : Int32))), J, X))) (fun _ => rfl) ?_
        obtain ⟨I8, eI8, h⟩ := ir_letG h
        rw [← eI8]
        clear eI8
        refine iq_G_go (k := 1) (σ' := (62, [some (.ref 1), some (.int x1), some (.int q2.1)], [.int q2.1], (iq_sh l, I8, J, X))) (fun _ => rfl) ?_
        cases h
        exact iq_G_ret (fun _ => rfl)
    · refine iq_G_neg (c := x1 ≤ (I 1 11)) (σ1 := (12, [some (.ref 1), some (.int x1), none], [], (iq_sh l, I, J, X))) (fun _ => rfl) hc_ ?_
      exact iq_G_fg (L := [none, none, none]) trivial (zO_museum_12_ok l I J X  h )
set_option maxRecDepth 100000 in
theorem zL_museum_ok (l : Nat)  (x1 : Int32) (I : iq_I) (J : iq_J) (X : iq_X) {q : Int32 × iq_I × iq_J × iq_X} (h : zL_museum x1 I J X = some q) : iq_Cc 72 325 [.ref 1, .int x1, .ref 114] (iq_sh l, I, J, X) (.inl (some (.int q.1)), (iq_sh l, q.2.1, q.2.2.1, q.2.2.2)) := by
  refine iq_Cc_of (L := [some (.ref 1), some (.int x1), some (.ref 114), none]) rfl rfl ?_
  unfold zL_museum at h
  refine iq_G_go (k := 4) (σ' := (4, [some (.ref 1), some (.int x1), some (.ref 114), none], [.int x1, .ref 1, .int (0 : Int32), .ref 114], (iq_sh l, I, J, X))) (fun _ => rfl) ?_
  obtain ⟨q1, hq1, h⟩ := iq_bnd h
  have hC := (zO_museum_ok l x1 I J X hq1)
  rcases iq_smc h with ⟨a2, ha, h⟩ | ⟨k3, ha, h⟩
  · rw [ha] at hC
    refine iq_G_call (σ' := (7, [some (.ref 1), some (.int x1), some (.ref 114), none], [.int a2, .int (0 : Int32), .ref 114], (iq_sh l, q1.2.1, J, q1.2.2))) (fun _ => rfl) hC rfl rfl ?_
    refine iq_G_go (k := 1) (σ' := (8, [some (.ref 1), some (.int x1), some (.ref 114), none], [.long (Int32.toInt64 a2), .int (0 : Int32), .ref 114], (iq_sh l, q1.2.1, J, q1.2.2))) (fun _ => rfl) ?_
    refine iq_G_go (k := 1) (σ' := (9, [some (.ref 1), some (.int x1), some (.ref 114), none], [], (iq_sh l, q1.2.1, (iq_upJ J 114 0 (Int32.toInt64 a2)), q1.2.2))) (fun _ => rfl) ?_
    obtain ⟨J4, eJ4, h⟩ := ir_letG h
    rw [← eJ4]
    clear eJ4
    refine iq_G_go (k := 2) (σ' := (16, [some (.ref 1), some (.int x1), some (.ref 114), none], [.int (0 : Int32)], (iq_sh l, q1.2.1, J4, q1.2.2))) (fun _ => rfl) ?_
    cases h
    exact iq_G_ret (fun _ => rfl)
  · rw [ha] at hC
    rcases iq_ite h with ⟨e, h⟩ | ⟨_, h⟩
    · cases h
    · obtain ⟨e, h⟩ := iq_itn h
      subst e
      refine iq_G_call (σ' := (13, [some (.ref 1), some (.int x1), some (.ref 114), none], [], (iq_sh l, q1.2.1, J, q1.2.2))) (fun _ => rfl) hC rfl rfl ?_
      refine iq_G_go (k := 1) (σ' := (14, [some (.ref 1), some (.int x1), some (.ref 114), none], [.int (1 : Int32)], (iq_sh l, q1.2.1, J, q1.2.2))) (fun _ => rfl) ?_
      cases h
      exact iq_G_ret (fun _ => rfl)
set_option maxRecDepth 100000 in
theorem zM_byteAt_ok (l : Nat)  (x1 : Int32) (I : iq_I) (J : iq_J) (X : iq_X) {q : Int32} (h : zM_byteAt x1 I = some q) : iq_Cc 1 207 [.ref 76, .int x1] (iq_sh l, I, J, X) (.inl (some (.int q)), (iq_sh l, I, J, X)) := by
  refine iq_Cc_of (L := [some (.ref 76), some (.int x1)]) rfl rfl ?_
  unfold zM_byteAt at h
  refine iq_G_go (k := 3) (σ' := (5, [some (.ref 76), some (.int x1)], [.int (I 76 21), .int x1], (iq_sh l, I, J, X))) (fun _ => rfl) ?_
  rcases iq_ite h with ⟨hc_, h⟩ | ⟨hc_, h⟩
  · refine iq_G_pos (c := (I 76 21) ≤ x1) (σ1 := (17, [some (.ref 76), some (.int x1)], [], (iq_sh l, I, J, X))) (fun _ => rfl) hc_ ?_
    refine iq_G_go (k := 1) (σ' := (18, [some (.ref 76), some (.int x1)], [.int (0 : Int32)], (iq_sh l, I, J, X))) (fun _ => rfl) ?_
    cases h
    exact iq_G_ret (fun _ => rfl)
  · refine iq_G_neg (c := (I 76 21) ≤ x1) (σ1 := (8, [some (.ref 76), some (.int x1)], [], (iq_sh l, I, J, X))) (fun _ => rfl) hc_ ?_
    refine iq_G_go (k := 3) (σ' := (13, [some (.ref 76), some (.int x1)], [.int x1, .ref 85], (iq_sh l, I, J, X))) (fun _ => rfl) ?_
    obtain ⟨hc_, h⟩ := iq_itn h
    refine iq_G_pos (c := iq_in x1 700) (σ1 := (14, [some (.ref 76), some (.int x1)], [.int (I 85 (Int32.toNatClampNeg x1))], (iq_sh l, I, J, X))) (fun _ => rfl) hc_ ?_
    refine iq_G_go (k := 1) (σ' := (18, [some (.ref 76), some (.int x1)], [.int (I 85 (Int32.toNatClampNeg x1))], (iq_sh l, I, J, X))) (fun _ => rfl) ?_
    cases h
    exact iq_G_ret (fun _ => rfl)
set_option maxRecDepth 100000 in
theorem zM_isLetter_ok (l : Nat)  (x0 : Int32) (I : iq_I) (J : iq_J) (X : iq_X) {q : Int32} (h : zM_isLetter x0 I = some q) : iq_Cc 1 208 [.int x0] (iq_sh l, I, J, X) (.inl (some (.int q)), (iq_sh l, I, J, X)) := by
  refine iq_Cc_of (L := [some (.int x0)]) rfl rfl ?_
  unfold zM_isLetter at h
  refine iq_G_go (k := 2) (σ' := (3, [some (.int x0)], [.int (97 : Int32), .int x0], (iq_sh l, I, J, X))) (fun _ => rfl) ?_
  rcases iq_ite h with ⟨hc_, h⟩ | ⟨hc_, h⟩
  · refine iq_G_pos (c := x0 < (97 : Int32)) (σ1 := (16, [some (.int x0)], [], (iq_sh l, I, J, X))) (fun _ => rfl) hc_ ?_
    refine iq_G_go (k := 1) (σ' := (17, [some (.int x0)], [.int (0 : Int32)], (iq_sh l, I, J, X))) (fun _ => rfl) ?_
    cases h
    exact iq_G_ret (fun _ => rfl)
  · refine iq_G_neg (c := x0 < (97 : Int32)) (σ1 := (6, [some (.int x0)], [], (iq_sh l, I, J, X))) (fun _ => rfl) hc_ ?_
    refine iq_G_go (k := 2) (σ' := (9, [some (.int x0)], [.int (122 : Int32), .int x0], (iq_sh l, I, J, X))) (fun _ => rfl) ?_
    rcases iq_ite h with ⟨hc_, h⟩ | ⟨hc_, h⟩
    · refine iq_G_pos (c := (122 : Int32) < x0) (σ1 := (16, [some (.int x0)], [], (iq_sh l, I, J, X))) (fun _ => rfl) hc_ ?_
      refine iq_G_go (k := 1) (σ' := (17, [some (.int x0)], [.int (0 : Int32)], (iq_sh l, I, J, X))) (fun _ => rfl) ?_
      cases h
      exact iq_G_ret (fun _ => rfl)
    · refine iq_G_neg (c := (122 : Int32) < x0) (σ1 := (12, [some (.int x0)], [], (iq_sh l, I, J, X))) (fun _ => rfl) hc_ ?_
      refine iq_G_go (k := 2) (σ' := (17, [some (.int x0)], [.int (1 : Int32)], (iq_sh l, I, J, X))) (fun _ => rfl) ?_
      cases h
      exact iq_G_ret (fun _ => rfl)
set_option maxRecDepth 100000 in
theorem zM_isDigit_ok (l : Nat)  (x0 : Int32) (I : iq_I) (J : iq_J) (X : iq_X) {q : Int32} (h : zM_isDigit x0 I = some q) : iq_Cc 1 209 [.int x0] (iq_sh l, I, J, X) (.inl (some (.int q)), (iq_sh l, I, J, X)) := by
  refine iq_Cc_of (L := [some (.int x0)]) rfl rfl ?_
  unfold zM_isDigit at h
  refine iq_G_go (k := 2) (σ' := (3, [some (.int x0)], [.int (48 : Int32), .int x0], (iq_sh l, I, J, X))) (fun _ => rfl) ?_
  rcases iq_ite h with ⟨hc_, h⟩ | ⟨hc_, h⟩
  · refine iq_G_pos (c := x0 < (48 : Int32)) (σ1 := (16, [some (.int x0)], [], (iq_sh l, I, J, X))) (fun _ => rfl) hc_ ?_
    refine iq_G_go (k := 1) (σ' := (17, [some (.int x0)], [.int (0 : Int32)], (iq_sh l, I, J, X))) (fun _ => rfl) ?_
    cases h
    exact iq_G_ret (fun _ => rfl)
  · refine iq_G_neg (c := x0 < (48 : Int32)) (σ1 := (6, [some (.int x0)], [], (iq_sh l, I, J, X))) (fun _ => rfl) hc_ ?_
    refine iq_G_go (k := 2) (σ' := (9, [some (.int x0)], [.int (57 : Int32), .int x0], (iq_sh l, I, J, X))) (fun _ => rfl) ?_
    rcases iq_ite h with ⟨hc_, h⟩ | ⟨hc_, h⟩
    · refine iq_G_pos (c := (57 : Int32) < x0) (σ1 := (16, [some (.int x0)], [], (iq_sh l, I, J, X))) (fun _ => rfl) hc_ ?_
      refine iq_G_go (k := 1) (σ' := (17, [some (.int x0)], [.int (0 : Int32)], (iq_sh l, I, J, X))) (fun _ => rfl) ?_
      cases h
      exact iq_G_ret (fun _ => rfl)
    · refine iq_G_neg (c := (57 : Int32) < x0) (σ1 := (12, [some (.int x0)], [], (iq_sh l, I, J, X))) (fun _ => rfl) hc_ ?_
      refine iq_G_go (k := 2) (σ' := (17, [some (.int x0)], [.int (1 : Int32)], (iq_sh l, I, J, X))) (fun _ => rfl) ?_
      cases h
      exact iq_G_ret (fun _ => rfl)
set_option maxRecDepth 100000 in
theorem zM_goes_l0_bok (l : Nat)   (J : iq_J) (X : iq_X)  (I : iq_I) {q : (iq_I) ⊕ (iq_I)} (h : zM_goes_l0_b J I = some q) (r : iq_R × iq_M) (hc : ∀ v, q = .inl v → iq_Gg 1 210 (0, [some (.ref 76), none], [], (iq_sh l, v, J, X)) r) (hx : ∀ w, q = .inr w → iq_Gg 1 210 (50, [some (.ref 76), none], [], (iq_sh l, w, J, X)) r) : iq_Gg 1 210 (0, [some (.ref 76), none], [], (iq_sh l, I, J, X)) r := by
  unfold zM_goes_l0_b at h
  refine iq_G_go (k := 4) (σ' := (8, [some (.ref 76), none], [.int (I 76 21), .int (I 76 22)], (iq_sh l, I, J, X))) (fun _ => rfl) ?_
  rcases iq_ite h with ⟨hc_, h⟩ | ⟨hc_, h⟩
  · refine iq_G_pos (c := (I 76 21) ≤ (I 76 22)) (σ1 := (50, [some (.ref 76), none], [], (iq_sh l, I, J, X))) (fun _ => rfl) hc_ ?_
    cases h
    exact iq_G_fg (L := [some (.ref 76), none]) (And.intro rfl trivial) (hx I rfl)
  · refine iq_G_neg (c := (I 76 21) ≤ (I 76 22)) (σ1 := (11, [some (.ref 76), none], [], (iq_sh l, I, J, X))) (fun _ => rfl) hc_ ?_
    refine iq_G_go (k := 3) (σ' := (16, [some (.ref 76), none], [.int (I 76 22), .ref 76], (iq_sh l, I, J, X))) (fun _ => rfl) ?_
    obtain ⟨q1, hq1, h⟩ := iq_bnd h
    refine iq_G_call (σ' := (19, [some (.ref 76), none], [.int q1], (iq_sh l, I, J, X))) (fun _ => rfl) (zM_byteAt_ok l (I 76 22) I J X hq1) rfl rfl ?_
    refine iq_G_go (k := 1) (σ' := (21, [some (.ref 76), none], [.int (32 : Int32), .int q1], (iq_sh l, I, J, X))) (fun _ => rfl) ?_
    rcases iq_ite h with ⟨hc_, h⟩ | ⟨hc_, h⟩
    · refine iq_G_pos (c := q1 = (32 : Int32)) (σ1 := (37, [some (.ref 76), none], [], (iq_sh l, I, J, X))) (fun _ => rfl) hc_ ?_
      refine iq_G_go (k := 5) (σ' := (44, [some (.ref 76), none], [.int ((I 76 22) + (1 : Int32)), .ref 76], (iq_sh l, I, J, X))) (fun _ => rfl) ?_
      refine iq_G_go (k := 1) (σ' := (47, [some (.ref 76), none], [], (iq_sh l, (iq_upI I 76 22 ((I 76 22) + (1 : Int32))), J, X))) (fun _ => rfl) ?_
      obtain ⟨I2, eI2, h⟩ := ir_letG h
      rw [← eI2]
      clear eI2
      refine iq_G_go (k := 1) (σ' := (0, [some (.ref 76), none], [], (iq_sh l, I2, J, X))) (fun _ => rfl) ?_
      cases h
      exact iq_G_fg (L := [some (.ref 76), none]) (And.intro rfl trivial) (hc I2 rfl)
    · refine iq_G_neg (c := q1 = (32 : Int32)) (σ1 := (24, [some (.ref 76), none], [], (iq_sh l, I, J, X))) (fun _ => rfl) hc_ ?_
      refine iq_G_go (k := 3) (σ' := (29, [some (.ref 76), none], [.int (I 76 22), .ref 76], (iq_sh l, I, J, X))) (fun _ => rfl) ?_
      obtain ⟨q3, hq3, h⟩ := iq_bnd h
      refine iq_G_call (σ' := (32, [some (.ref 76), none], [.int q3], (iq_sh l, I, J, X))) (fun _ => rfl) (zM_byteAt_ok l (I 76 22) I J X hq3) rfl rfl ?_
      refine iq_G_go (k := 1) (σ' := (34, [some (.ref 76), none], [.int (10 : Int32), .int q3], (iq_sh l, I, J, X))) (fun _ => rfl) ?_
      rcases iq_ite h with ⟨hc_, h⟩ | ⟨hc_, h⟩
      · refine iq_G_pos (c := ¬ q3 = (10 : Int32)) (σ1 := (50, [some (.ref 76), none], [], (iq_sh l, I, J, X))) (fun _ => rfl) hc_ ?_
        cases h
        exact iq_G_fg (L := [some (.ref 76), none]) (And.intro rfl trivial) (hx I rfl)
      · refine iq_G_neg (c := ¬ q3 = (10 : Int32)) (σ1 := (37, [some (.ref 76), none], [], (iq_sh l, I, J, X))) (fun _ => rfl) hc_ ?_
        refine iq_G_go (k := 5) (σ' := (44, [some (.ref 76), none], [.int ((I 76 22) + (1 : Int32)), .ref 76], (iq_sh l, I, J, X))) (fun _ => rfl) ?_
        refine iq_G_go (k := 1) (σ' := (47, [some (.ref 76), none], [], (iq_sh l, (iq_upI I 76 22 ((I 76 22) + (1 : Int32))), J, X))) (fun _ => rfl) ?_
        obtain ⟨I4, eI4, h⟩ := ir_letG h
        rw [← eI4]
        clear eI4
        refine iq_G_go (k := 1) (σ' := (0, [some (.ref 76), none], [], (iq_sh l, I4, J, X))) (fun _ => rfl) ?_
        cases h
        exact iq_G_fg (L := [some (.ref 76), none]) (And.intro rfl trivial) (hc I4 rfl)
set_option maxRecDepth 100000 in
theorem zM_goes_l0_ok (l : Nat)   (J : iq_J) (X : iq_X) {n : Nat} {v : iq_I} {w : iq_I} (h : zM_goes_l0 J n v = some w) (r : iq_R × iq_M) (hq : iq_Gg 1 210 (50, [some (.ref 76), none], [], (iq_sh l, w, J, X)) r) : iq_Gg 1 210 (0, [some (.ref 76), none], [], (iq_sh l, v, J, X)) r :=
  iq_lp_ok (σ := fun v => (0, [some (.ref 76), none], [], (iq_sh l, v, J, X))) (Q := fun w r => iq_Gg 1 210 (50, [some (.ref 76), none], [], (iq_sh l, w, J, X)) r) (fun v q hv r h1 h2 => zM_goes_l0_bok l J X v hv r h1 h2) h r hq
set_option maxRecDepth 100000 in
theorem zM_goes_323_ok (l : Nat)   (I : iq_I) (J : iq_J) (X : iq_X)  {q : iq_I × iq_J} (h : zM_goes_323 I J = some q)  : iq_Gg 1 210 (323, [some (.ref 76), none], [.ref 76], (iq_sh l, I, J, X)) (.inl none, (iq_sh l, q.1, q.2, X)) := by
  unfold zM_goes_323 at h
  refine iq_G_go (k := 2) (σ' := (328, [some (.ref 76), none], [.int (3 : Int32), .ref 76], (iq_sh l, I, J, X))) (fun _ => rfl) ?_
  refine iq_G_go (k := 1) (σ' := (331, [some (.ref 76), none], [], (iq_sh l, (iq_upI I 76 23 (3 : Int32)), J, X))) (fun _ => rfl) ?_
  obtain ⟨I14, eI14, h⟩ := ir_letG h
  rw [← eI14]
  clear eI14
  refine iq_G_go (k := 6) (σ' := (341, [some (.ref 76), none], [.int ((I14 76 22) - (I14 76 24)), .ref 76], (iq_sh l, I14, J, X))) (fun _ => rfl) ?_
  refine iq_G_go (k := 1) (σ' := (344, [some (.ref 76), none], [], (iq_sh l, (iq_upI I14 76 25 ((I14 76 22) - (I14 76 24))), J, X))) (fun _ => rfl) ?_
  obtain ⟨I15, eI15, h⟩ := ir_letG h
  rw [← eI15]
  clear eI15
  cases h
  exact iq_G_ret (fun _ => rfl)
set_option maxRecDepth 100000 in
theorem zM_goes_l187_bok (l : Nat)   (J : iq_J) (X : iq_X)  (I : iq_I) {q : (iq_I) ⊕ (iq_I)} (h : zM_goes_l187_b J I = some q) (r : iq_R × iq_M) (hc : ∀ v, q = .inl v → iq_Gg 1 210 (187, [some (.ref 76), none], [], (iq_sh l, v, J, X)) r) (hx : ∀ w, q = .inr w → iq_Gg 1 210 (250, [some (.ref 76), none], [], (iq_sh l, w, J, X)) r) : iq_Gg 1 210 (187, [some (.ref 76), none], [], (iq_sh l, I, J, X)) r := by
  unfold zM_goes_l187_b at h
  refine iq_G_go (k := 3) (σ' := (192, [some (.ref 76), none], [.int (I 76 22), .ref 76], (iq_sh l, I, J, X))) (fun _ => rfl) ?_
  obtain ⟨q18, hq18, h⟩ := iq_bnd h
  refine iq_G_call (σ' := (195, [some (.ref 76), none], [.int q18], (iq_sh l, I, J, X))) (fun _ => rfl) (zM_byteAt_ok l (I 76 22) I J X hq18) rfl rfl ?_
  obtain ⟨q19, hq19, h⟩ := iq_bnd h
  refine iq_G_call (σ' := (198, [some (.ref 76), none], [.int q19], (iq_sh l, I, J, X))) (fun _ => rfl) (zM_isDigit_ok l q18 I J X hq19) rfl rfl ?_
  rcases iq_ite h with ⟨hc_, h⟩ | ⟨hc_, h⟩
  · refine iq_G_pos (c := q19 = 0) (σ1 := (250, [some (.ref 76), none], [], (iq_sh l, I, J, X))) (fun _ => rfl) hc_ ?_
    cases h
    exact iq_G_fg (L := [some (.ref 76), none]) (And.intro rfl trivial) (hx I rfl)
  · refine iq_G_neg (c := q19 = 0) (σ1 := (201, [some (.ref 76), none], [], (iq_sh l, I, J, X))) (fun _ => rfl) hc_ ?_
    refine iq_G_go (k := 6) (σ' := (211, [some (.ref 76), none], [.int (4 : Int32), .int ((I 76 22) - (I 76 24))], (iq_sh l, I, J, X))) (fun _ => rfl) ?_
    rcases iq_ite h with ⟨hc_, h⟩ | ⟨hc_, h⟩
    · have st_ : ∀ (z_0 : Int32) (r_ : iq_R × iq_M), (4 : Int32) ≤ z_0 → iq_Gg 1 210 (237, [some (.ref 76), none], [], (iq_sh l, I, J, X)) r_ → iq_Gg 1 210 (211, [some (.ref 76), none], [.int (4 : Int32), .int z_0], (iq_sh l, I, J, X)) r_ := fun z_0 r_ hc_ hg_ => iq_G_pos (c := (4 : Int32) ≤ z_0) (σ1 := (237, [some (.ref 76), none], [], (iq_sh l, I, J, X))) (fun _ => rfl) hc_ hg_
      refine st_ ((I 76 22) - (I 76 24)) _ hc_ ?_
      clear st_
      refine iq_G_go (k := 5) (σ' := (244, [some (.ref 76), none], [.int ((I 76 22) + (1 : Int32)), .ref 76], (iq_sh l, I, J, X))) (fun _ => rfl) ?_
      refine iq_G_go (k := 1) (σ' := (247, [some (.ref 76), none], [], (iq_sh l, (iq_upI I 76 22 ((I 76 22) + (1 : Int32))), J, X))) (fun _ => rfl) ?_
      obtain ⟨I20, eI20, h⟩ := ir_letG h
      rw [← eI20]
      clear eI20
      refine iq_G_go (k := 1) (σ' := (187, [some (.ref 76), none], [], (iq_sh l, I20, J, X))) (fun _ => rfl) ?_
      cases h
      exact iq_G_fg (L := [some (.ref 76), none]) (And.intro rfl trivial) (hc I20 rfl)
    · have st_ : ∀ (z_0 : Int32) (r_ : iq_R × iq_M), ¬ ((4 : Int32) ≤ z_0) → iq_Gg 1 210 (214, [some (.ref 76), none], [], (iq_sh l, I, J, X)) r_ → iq_Gg 1 210 (211, [some (.ref 76), none], [.int (4 : Int32), .int z_0], (iq_sh l, I, J, X)) r_ := fun z_0 r_ hc_ hg_ => iq_G_neg (c := (4 : Int32) ≤ z_0) (σ1 := (214, [some (.ref 76), none], [], (iq_sh l, I, J, X))) (fun _ => rfl) hc_ hg_
      refine st_ ((I 76 22) - (I 76 24)) _ hc_ ?_
      clear st_
      refine iq_G_go (k := 8) (σ' := (227, [some (.ref 76), none], [.int (I 76 22), .ref 76, .int ((10 : Int32) * (I 76 26)), .ref 76], (iq_sh l, I, J, X))) (fun _ => rfl) ?_
      obtain ⟨q21, hq21, h⟩ := iq_bnd h
      refine iq_G_call (σ' := (230, [some (.ref 76), none], [.int q21, .int ((10 : Int32) * (I 76 26)), .ref 76], (iq_sh l, I, J, X))) (fun _ => rfl) (zM_byteAt_ok l (I 76 22) I J X hq21) rfl rfl ?_
      refine iq_G_go (k := 3) (σ' := (234, [some (.ref 76), none], [.int ((((10 : Int32) * (I 76 26)) + q21) - (48 : Int32)), .ref 76], (iq_sh l, I, J, X))) (fun _ => rfl) ?_
      refine iq_G_go (k := 1) (σ' := (237, [some (.ref 76), none], [], (iq_sh l, (iq_upI I 76 26 ((((10 : Int32) * (I 76 26)) + q21) - (48 : Int32))), J, X))) (fun _ => rfl) ?_
      obtain ⟨I22, eI22, h⟩ := ir_letG h
      rw [← eI22]
      clear eI22
      refine iq_G_go (k := 5) (σ' := (244, [some (.ref 76), none], [.int ((I22 76 22) + (1 : Int32)), .ref 76], (iq_sh l, I22, J, X))) (fun _ => rfl) ?_
      refine iq_G_go (k := 1) (σ' := (247, [some (.ref 76), none], [], (iq_sh l, (iq_upI I22 76 22 ((I22 76 22) + (1 : Int32))), J, X))) (fun _ => rfl) ?_
      obtain ⟨I23, eI23, h⟩ := ir_letG h
      rw [← eI23]
      clear eI23
      refine iq_G_go (k := 1) (σ' := (187, [some (.ref 76), none], [], (iq_sh l, I23, J, X))) (fun _ => rfl) ?_
      cases h
      exact iq_G_fg (L := [some (.ref 76), none]) (And.intro rfl trivial) (hc I23 rfl)
set_option maxRecDepth 100000 in
theorem zM_goes_l187_ok (l : Nat)   (J : iq_J) (X : iq_X) {n : Nat} {v : iq_I} {w : iq_I} (h : zM_goes_l187 J n v = some w) (r : iq_R × iq_M) (hq : iq_Gg 1 210 (250, [some (.ref 76), none], [], (iq_sh l, w, J, X)) r) : iq_Gg 1 210 (187, [some (.ref 76), none], [], (iq_sh l, v, J, X)) r :=
  iq_lp_ok (σ := fun v => (187, [some (.ref 76), none], [], (iq_sh l, v, J, X))) (Q := fun w r => iq_Gg 1 210 (250, [some (.ref 76), none], [], (iq_sh l, w, J, X)) r) (fun v q hv r h1 h2 => zM_goes_l187_bok l J X v hv r h1 h2) h r hq
set_option maxRecDepth 100000 in
theorem zM_goes_l108_bok (l : Nat)   (X : iq_X)  (I : iq_I) (J : iq_J) {q : (iq_I × iq_J) ⊕ (iq_I × iq_J)} (h : zM_goes_l108_b  I J = some q) (r : iq_R × iq_M) (hc : ∀ v, q = .inl v → iq_Gg 1 210 (108, [some (.ref 76), none], [], (iq_sh l, v.1, v.2, X)) r) (hx : ∀ w, q = .inr w → iq_Gg 1 210 (172, [some (.ref 76), none], [], (iq_sh l, w.1, w.2, X)) r) : iq_Gg 1 210 (108, [some (.ref 76), none], [], (iq_sh l, I, J, X)) r := by
  unfold zM_goes_l108_b at h
  refine iq_G_go (k := 3) (σ' := (113, [some (.ref 76), none], [.int (I 76 22), .ref 76], (iq_sh l, I, J, X))) (fun _ => rfl) ?_
  obtain ⟨q27, hq27, h⟩ := iq_bnd h
  refine iq_G_call (σ' := (116, [some (.ref 76), none], [.int q27], (iq_sh l, I, J, X))) (fun _ => rfl) (zM_byteAt_ok l (I 76 22) I J X hq27) rfl rfl ?_
  obtain ⟨q28, hq28, h⟩ := iq_bnd h
  refine iq_G_call (σ' := (119, [some (.ref 76), none], [.int q28], (iq_sh l, I, J, X))) (fun _ => rfl) (zM_isLetter_ok l q27 I J X hq28) rfl rfl ?_
  rcases iq_ite h with ⟨hc_, h⟩ | ⟨hc_, h⟩
  · refine iq_G_pos (c := q28 = 0) (σ1 := (172, [some (.ref 76), none], [], (iq_sh l, I, J, X))) (fun _ => rfl) hc_ ?_
    cases h
    exact iq_G_fg (L := [some (.ref 76), none]) (And.intro rfl trivial) (hx (I, J) rfl)
  · refine iq_G_neg (c := q28 = 0) (σ1 := (122, [some (.ref 76), none], [], (iq_sh l, I, J, X))) (fun _ => rfl) hc_ ?_
    refine iq_G_go (k := 6) (σ' := (133, [some (.ref 76), none], [.int (7 : Int32), .int ((I 76 22) - (I 76 24))], (iq_sh l, I, J, X))) (fun _ => rfl) ?_
    rcases iq_ite h with ⟨hc_, h⟩ | ⟨hc_, h⟩
    · have st_ : ∀ (z_0 : Int32) (r_ : iq_R × iq_M), (7 : Int32) ≤ z_0 → iq_Gg 1 210 (159, [some (.ref 76), none], [], (iq_sh l, I, J, X)) r_ → iq_Gg 1 210 (133, [some (.ref 76), none], [.int (7 : Int32), .int z_0], (iq_sh l, I, J, X)) r_ := fun z_0 r_ hc_ hg_ => iq_G_pos (c := (7 : Int32) ≤ z_0) (σ1 := (159, [some (.ref 76), none], [], (iq_sh l, I, J, X))) (fun _ => rfl) hc_ hg_
      refine st_ ((I 76 22) - (I 76 24)) _ hc_ ?_
      clear st_
      refine iq_G_go (k := 5) (σ' := (166, [some (.ref 76), none], [.int ((I 76 22) + (1 : Int32)), .ref 76], (iq_sh l, I, J, X))) (fun _ => rfl) ?_
      refine iq_G_go (k := 1) (σ' := (169, [some (.ref 76), none], [], (iq_sh l, (iq_upI I 76 22 ((I 76 22) + (1 : Int32))), J, X))) (fun _ => rfl) ?_
      obtain ⟨I29, eI29, h⟩ := ir_letG h
      rw [← eI29]
      clear eI29
      refine iq_G_go (k := 1) (σ' := (108, [some (.ref 76), none], [], (iq_sh l, I29, J, X))) (fun _ => rfl) ?_
      cases h
      exact iq_G_fg (L := [some (.ref 76), none]) (And.intro rfl trivial) (hc (I29, J) rfl)
    · have st_ : ∀ (z_0 : Int32) (r_ : iq_R × iq_M), ¬ ((7 : Int32) ≤ z_0) → iq_Gg 1 210 (136, [some (.ref 76), none], [], (iq_sh l, I, J, X)) r_ → iq_Gg 1 210 (133, [some (.ref 76), none], [.int (7 : Int32), .int z_0], (iq_sh l, I, J, X)) r_ := fun z_0 r_ hc_ hg_ => iq_G_neg (c := (7 : Int32) ≤ z_0) (σ1 := (136, [some (.ref 76), none], [], (iq_sh l, I, J, X))) (fun _ => rfl) hc_ hg_
      refine st_ ((I 76 22) - (I 76 24)) _ hc_ ?_
      clear st_
      refine iq_G_go (k := 8) (σ' := (148, [some (.ref 76), none], [.int (I 76 22), .ref 76, .long ((J 76 28) <<< (Int32.toInt64 (5 : Int32) &&& 63)), .ref 76], (iq_sh l, I, J, X))) (fun _ => rfl) ?_
      obtain ⟨q30, hq30, h⟩ := iq_bnd h
      refine iq_G_call (σ' := (151, [some (.ref 76), none], [.int q30, .long ((J 76 28) <<< (Int32.toInt64 (5 : Int32) &&& 63)), .ref 76], (iq_sh l, I, J, X))) (fun _ => rfl) (zM_byteAt_ok l (I 76 22) I J X hq30) rfl rfl ?_
      refine iq_G_go (k := 4) (σ' := (156, [some (.ref 76), none], [.long (((J 76 28) <<< (Int32.toInt64 (5 : Int32) &&& 63)) ||| (Int32.toInt64 (q30 - (96 : Int32)))), .ref 76], (iq_sh l, I, J, X))) (fun _ => rfl) ?_
      refine iq_G_go (k := 1) (σ' := (159, [some (.ref 76), none], [], (iq_sh l, I, (iq_upJ J 76 28 (((J 76 28) <<< (Int32.toInt64 (5 : Int32) &&& 63)) ||| (Int32.toInt64 (q30 - (96 : Int32))))), X))) (fun _ => rfl) ?_
      obtain ⟨J31, eJ31, h⟩ := ir_letG h
      rw [← eJ31]
      clear eJ31
      refine iq_G_go (k := 5) (σ' := (166, [some (.ref 76), none], [.int ((I 76 22) + (1 : Int32)), .ref 76], (iq_sh l, I, J31, X))) (fun _ => rfl) ?_
      refine iq_G_go (k := 1) (σ' := (169, [some (.ref 76), none], [], (iq_sh l, (iq_upI I 76 22 ((I 76 22) + (1 : Int32))), J31, X))) (fun _ => rfl) ?_
      obtain ⟨I32, eI32, h⟩ := ir_letG h
      rw [← eI32]
      clear eI32
      refine iq_G_go (k := 1) (σ' := (108, [some (.ref 76), none], [], (iq_sh l, I32, J31, X))) (fun _ => rfl) ?_
      cases h
      exact iq_G_fg (L := [some (.ref 76), none]) (And.intro rfl trivial) (hc (I32, J31) rfl)
set_option maxRecDepth 100000 in
theorem zM_goes_l108_ok (l : Nat)   (X : iq_X) {n : Nat} {v : iq_I × iq_J} {w : iq_I × iq_J} (h : zM_goes_l108  n v = some w) (r : iq_R × iq_M) (hq : iq_Gg 1 210 (172, [some (.ref 76), none], [], (iq_sh l, w.1, w.2, X)) r) : iq_Gg 1 210 (108, [some (.ref 76), none], [], (iq_sh l, v.1, v.2, X)) r :=
  iq_lp_ok (σ := fun v => (108, [some (.ref 76), none], [], (iq_sh l, v.1, v.2, X))) (Q := fun w r => iq_Gg 1 210 (172, [some (.ref 76), none], [], (iq_sh l, w.1, w.2, X)) r) (fun v q hv r h1 h2 => zM_goes_l108_bok l X v.1 v.2 hv r h1 h2) h r hq
set_option maxRecDepth 100000 in
theorem zM_goes_50_ok (l : Nat)   (I : iq_I) (J : iq_J) (X : iq_X)  {q : iq_I × iq_J} (h : zM_goes_50 I J = some q)  : iq_Gg 1 210 (50, [some (.ref 76), none], [], (iq_sh l, I, J, X)) (.inl none, (iq_sh l, q.1, q.2, X)) := by
  unfold zM_goes_50 at h
  refine iq_G_go (k := 3) (σ' := (55, [some (.ref 76), none], [.int (I 76 22), .ref 76], (iq_sh l, I, J, X))) (fun _ => rfl) ?_
  refine iq_G_go (k := 1) (σ' := (58, [some (.ref 76), none], [], (iq_sh l, (iq_upI I 76 24 (I 76 22)), J, X))) (fun _ => rfl) ?_
  obtain ⟨I6, eI6, h⟩ := ir_letG h
  rw [← eI6]
  clear eI6
  refine iq_G_go (k := 2) (σ' := (60, [some (.ref 76), none], [.long (0 : Int64), .ref 76], (iq_sh l, I6, J, X))) (fun _ => rfl) ?_
  refine iq_G_go (k := 1) (σ' := (63, [some (.ref 76), none], [], (iq_sh l, I6, (iq_upJ J 76 28 (0 : Int64)), X))) (fun _ => rfl) ?_
  obtain ⟨J7, eJ7, h⟩ := ir_letG h
  rw [← eJ7]
  clear eJ7
  refine iq_G_go (k := 2) (σ' := (65, [some (.ref 76), none], [.int (0 : Int32), .ref 76], (iq_sh l, I6, J7, X))) (fun _ => rfl) ?_
  refine iq_G_go (k := 1) (σ' := (68, [some (.ref 76), none], [], (iq_sh l, (iq_upI I6 76 26 (0 : Int32)), J7, X))) (fun _ => rfl) ?_
  obtain ⟨I8, eI8, h⟩ := ir_letG h
  rw [← eI8]
  clear eI8
  refine iq_G_go (k := 3) (σ' := (73, [some (.ref 76), none], [.int (I8 76 22), .ref 76], (iq_sh l, I8, J7, X))) (fun _ => rfl) ?_
  obtain ⟨q9, hq9, h⟩ := iq_bnd h
  refine iq_G_call (σ' := (76, [some (.ref 76), none], [.int q9], (iq_sh l, I8, J7, X))) (fun _ => rfl) (zM_byteAt_ok l (I8 76 22) I8 J7 X hq9) rfl rfl ?_
  refine iq_G_go (k := 3) (σ' := (79, [some (.ref 76), some (.int q9)], [.int q9, .ref 76], (iq_sh l, I8, J7, X))) (fun _ => rfl) ?_
  refine iq_G_go (k := 1) (σ' := (82, [some (.ref 76), some (.int q9)], [], (iq_sh l, (iq_upI I8 76 27 q9), J7, X))) (fun _ => rfl) ?_
  obtain ⟨I10, eI10, h⟩ := ir_letG h
  rw [← eI10]
  clear eI10
  refine iq_G_go (k := 4) (σ' := (90, [some (.ref 76), some (.int q9)], [.int (I10 76 21), .int (I10 76 22)], (iq_sh l, I10, J7, X))) (fun _ => rfl) ?_
  rcases iq_ite h with ⟨hc_, h⟩ | ⟨hc_, h⟩
  · refine iq_G_pos (c := (I10 76 22) < (I10 76 21)) (σ1 := (101, [some (.ref 76), some (.int q9)], [], (iq_sh l, I10, J7, X))) (fun _ => rfl) hc_ ?_
    refine iq_G_go (k := 1) (σ' := (102, [some (.ref 76), some (.int q9)], [.int q9], (iq_sh l, I10, J7, X))) (fun _ => rfl) ?_
    obtain ⟨q11, hq11, h⟩ := iq_bnd h
    refine iq_G_call (σ' := (105, [some (.ref 76), some (.int q9)], [.int q11], (iq_sh l, I10, J7, X))) (fun _ => rfl) (zM_isLetter_ok l q9 I10 J7 X hq11) rfl rfl ?_
    rcases iq_ite h with ⟨hc_, h⟩ | ⟨hc_, h⟩
    · refine iq_G_pos (c := q11 = 0) (σ1 := (180, [some (.ref 76), some (.int q9)], [], (iq_sh l, I10, J7, X))) (fun _ => rfl) hc_ ?_
      refine iq_G_go (k := 1) (σ' := (181, [some (.ref 76), some (.int q9)], [.int q9], (iq_sh l, I10, J7, X))) (fun _ => rfl) ?_
      obtain ⟨q12, hq12, h⟩ := iq_bnd h
      refine iq_G_call (σ' := (184, [some (.ref 76), some (.int q9)], [.int q12], (iq_sh l, I10, J7, X))) (fun _ => rfl) (zM_isDigit_ok l q9 I10 J7 X hq12) rfl rfl ?_
      rcases iq_ite h with ⟨hc_, h⟩ | ⟨hc_, h⟩
      · refine iq_G_pos (c := q12 = 0) (σ1 := (258, [some (.ref 76), some (.int q9)], [], (iq_sh l, I10, J7, X))) (fun _ => rfl) hc_ ?_
        refine iq_G_go (k := 5) (σ' := (265, [some (.ref 76), some (.int q9)], [.int ((I10 76 22) + (1 : Int32)), .ref 76], (iq_sh l, I10, J7, X))) (fun _ => rfl) ?_
        refine iq_G_go (k := 1) (σ' := (268, [some (.ref 76), some (.int q9)], [], (iq_sh l, (iq_upI I10 76 22 ((I10 76 22) + (1 : Int32))), J7, X))) (fun _ => rfl) ?_
        obtain ⟨I13, eI13, h⟩ := ir_letG h
        rw [← eI13]
        clear eI13
        refine iq_G_go (k := 3) (σ' := (272, [some (.ref 76), some (.int q9)], [.int (59 : Int32), .int q9, .ref 76], (iq_sh l, I13, J7, X))) (fun _ => rfl) ?_
        rcases iq_ite h with ⟨hc_, h⟩ | ⟨hc_, h⟩
        · refine iq_G_pos (c := q9 = (59 : Int32)) (σ1 := (323, [some (.ref 76), some (.int q9)], [.ref 76], (iq_sh l, I13, J7, X))) (fun _ => rfl) hc_ ?_
          exact iq_G_fg (L := [some (.ref 76), none]) (And.intro rfl trivial) (zM_goes_323_ok l I13 J7 X  h )
        · refine iq_G_neg (c := q9 = (59 : Int32)) (σ1 := (275, [some (.ref 76), some (.int q9)], [.ref 76], (iq_sh l, I13, J7, X))) (fun _ => rfl) hc_ ?_
          refine iq_G_go (k := 2) (σ' := (278, [some (.ref 76), some (.int q9)], [.int (40 : Int32), .int q9, .ref 76], (iq_sh l, I13, J7, X))) (fun _ => rfl) ?_
          rcases iq_ite h with ⟨hc_, h⟩ | ⟨hc_, h⟩
          · refine iq_G_pos (c := q9 = (40 : Int32)) (σ1 := (323, [some (.ref 76), some (.int q9)], [.ref 76], (iq_sh l, I13, J7, X))) (fun _ => rfl) hc_ ?_
            exact iq_G_fg (L := [some (.ref 76), none]) (And.intro rfl trivial) (zM_goes_323_ok l I13 J7 X  h )
          · refine iq_G_neg (c := q9 = (40 : Int32)) (σ1 := (281, [some (.ref 76), some (.int q9)], [.ref 76], (iq_sh l, I13, J7, X))) (fun _ => rfl) hc_ ?_
            refine iq_G_go (k := 2) (σ' := (284, [some (.ref 76), some (.int q9)], [.int (41 : Int32), .int q9, .ref 76], (iq_sh l, I13, J7, X))) (fun _ => rfl) ?_
            rcases iq_ite h with ⟨hc_, h⟩ | ⟨hc_, h⟩
            · refine iq_G_pos (c := q9 = (41 : Int32)) (σ1 := (323, [some (.ref 76), some (.int q9)], [.ref 76], (iq_sh l, I13, J7, X))) (fun _ => rfl) hc_ ?_
              exact iq_G_fg (L := [some (.ref 76), none]) (And.intro rfl trivial) (zM_goes_323_ok l I13 J7 X  h )
            · refine iq_G_neg (c := q9 = (41 : Int32)) (σ1 := (287, [some (.ref 76), some (.int q9)], [.ref 76], (iq_sh l, I13, J7, X))) (fun _ => rfl) hc_ ?_
              refine iq_G_go (k := 2) (σ' := (290, [some (.ref 76), some (.int q9)], [.int (43 : Int32), .int q9, .ref 76], (iq_sh l, I13, J7, X))) (fun _ => rfl) ?_
              rcases iq_ite h with ⟨hc_, h⟩ | ⟨hc_, h⟩
              · refine iq_G_pos (c := q9 = (43 : Int32)) (σ1 := (323, [some (.ref 76), some (.int q9)], [.ref 76], (iq_sh l, I13, J7, X))) (fun _ => rfl) hc_ ?_
                exact iq_G_fg (L := [some (.ref 76), none]) (And.intro rfl trivial) (zM_goes_323_ok l I13 J7 X  h )
              · refine iq_G_neg (c := q9 = (43 : Int32)) (σ1 := (293, [some (.ref 76), some (.int q9)], [.ref 76], (iq_sh l, I13, J7, X))) (fun _ => rfl) hc_ ?_
                refine iq_G_go (k := 2) (σ' := (296, [some (.ref 76), some (.int q9)], [.int (45 : Int32), .int q9, .ref 76], (iq_sh l, I13, J7, X))) (fun _ => rfl) ?_
                rcases iq_ite h with ⟨hc_, h⟩ | ⟨hc_, h⟩
                · refine iq_G_pos (c := q9 = (45 : Int32)) (σ1 := (323, [some (.ref 76), some (.int q9)], [.ref 76], (iq_sh l, I13, J7, X))) (fun _ => rfl) hc_ ?_
                  exact iq_G_fg (L := [some (.ref 76), none]) (And.intro rfl trivial) (zM_goes_323_ok l I13 J7 X  h )
                · refine iq_G_neg (c := q9 = (45 : Int32)) (σ1 := (299, [some (.ref 76), some (.int q9)], [.ref 76], (iq_sh l, I13, J7, X))) (fun _ => rfl) hc_ ?_
                  refine iq_G_go (k := 2) (σ' := (302, [some (.ref 76), some (.int q9)], [.int (42 : Int32), .int q9, .ref 76], (iq_sh l, I13, J7, X))) (fun _ => rfl) ?_
                  rcases iq_ite h with ⟨hc_, h⟩ | ⟨hc_, h⟩
                  · refine iq_G_pos (c := q9 = (42 : Int32)) (σ1 := (323, [some (.ref 76), some (.int q9)], [.ref 76], (iq_sh l, I13, J7, X))) (fun _ => rfl) hc_ ?_
                    exact iq_G_fg (L := [some (.ref 76), none]) (And.intro rfl trivial) (zM_goes_323_ok l I13 J7 X  h )
                  · refine iq_G_neg (c := q9 = (42 : Int32)) (σ1 := (305, [some (.ref 76), some (.int q9)], [.ref 76], (iq_sh l, I13, J7, X))) (fun _ => rfl) hc_ ?_
                    refine iq_G_go (k := 2) (σ' := (308, [some (.ref 76), some (.int q9)], [.int (47 : Int32), .int q9, .ref 76], (iq_sh l, I13, J7, X))) (fun _ => rfl) ?_
                    rcases iq_ite h with ⟨hc_, h⟩ | ⟨hc_, h⟩
                    · refine iq_G_pos (c := q9 = (47 : Int32)) (σ1 := (323, [some (.ref 76), some (.int q9)], [.ref 76], (iq_sh l, I13, J7, X))) (fun _ => rfl) hc_ ?_
                      exact iq_G_fg (L := [some (.ref 76), none]) (And.intro rfl trivial) (zM_goes_323_ok l I13 J7 X  h )
                    · refine iq_G_neg (c := q9 = (47 : Int32)) (σ1 := (311, [some (.ref 76), some (.int q9)], [.ref 76], (iq_sh l, I13, J7, X))) (fun _ => rfl) hc_ ?_
                      refine iq_G_go (k := 2) (σ' := (314, [some (.ref 76), some (.int q9)], [.int (60 : Int32), .int q9, .ref 76], (iq_sh l, I13, J7, X))) (fun _ => rfl) ?_
                      rcases iq_ite h with ⟨hc_, h⟩ | ⟨hc_, h⟩
                      · refine iq_G_pos (c := q9 = (60 : Int32)) (σ1 := (323, [some (.ref 76), some (.int q9)], [.ref 76], (iq_sh l, I13, J7, X))) (fun _ => rfl) hc_ ?_
                        exact iq_G_fg (L := [some (.ref 76), none]) (And.intro rfl trivial) (zM_goes_323_ok l I13 J7 X  h )
                      · refine iq_G_neg (c := q9 = (60 : Int32)) (σ1 := (317, [some (.ref 76), some (.int q9)], [.ref 76], (iq_sh l, I13, J7, X))) (fun _ => rfl) hc_ ?_
                        refine iq_G_go (k := 2) (σ' := (320, [some (.ref 76), some (.int q9)], [.int (61 : Int32), .int q9, .ref 76], (iq_sh l, I13, J7, X))) (fun _ => rfl) ?_
                        rcases iq_ite h with ⟨hc_, h⟩ | ⟨hc_, h⟩
                        · refine iq_G_pos (c := ¬ q9 = (61 : Int32)) (σ1 := (327, [some (.ref 76), some (.int q9)], [.ref 76], (iq_sh l, I13, J7, X))) (fun _ => rfl) hc_ ?_
                          refine iq_G_go (k := 1) (σ' := (328, [some (.ref 76), some (.int q9)], [.int (4 : Int32), .ref 76], (iq_sh l, I13, J7, X))) (fun _ => rfl) ?_
                          refine iq_G_go (k := 1) (σ' := (331, [some (.ref 76), some (.int q9)], [], (iq_sh l, (iq_upI I13 76 23 (4 : Int32)), J7, X))) (fun _ => rfl) ?_
                          obtain ⟨I16, eI16, h⟩ := ir_letG h
                          rw [← eI16]
                          clear eI16
                          refine iq_G_go (k := 6) (σ' := (341, [some (.ref 76), some (.int q9)], [.int ((I16 76 22) - (I16 76 24)), .ref 76], (iq_sh l, I16, J7, X))) (fun _ => rfl) ?_
                          refine iq_G_go (k := 1) (σ' := (344, [some (.ref 76), some (.int q9)], [], (iq_sh l, (iq_upI I16 76 25 ((I16 76 22) - (I16 76 24))), J7, X))) (fun _ => rfl) ?_
                          obtain ⟨I17, eI17, h⟩ := ir_letG h
                          rw [← eI17]
                          clear eI17
                          cases h
                          exact iq_G_ret (fun _ => rfl)
                        · refine iq_G_neg (c := ¬ q9 = (61 : Int32)) (σ1 := (323, [some (.ref 76), some (.int q9)], [.ref 76], (iq_sh l, I13, J7, X))) (fun _ => rfl) hc_ ?_
                          exact iq_G_fg (L := [some (.ref 76), none]) (And.intro rfl trivial) (zM_goes_323_ok l I13 J7 X  h )
      · refine iq_G_neg (c := q12 = 0) (σ1 := (187, [some (.ref 76), some (.int q9)], [], (iq_sh l, I10, J7, X))) (fun _ => rfl) hc_ ?_
        obtain ⟨w24, hw24, h⟩ := iq_bnd h
        refine iq_G_fg (L := [some (.ref 76), none]) (And.intro rfl trivial) ?_
        refine zM_goes_l187_ok l J7 X hw24 _ ?_
        show iq_Gg 1 210 (250, [some (.ref 76), none], [], (iq_sh l, w24, J7, X)) _
        refine iq_G_go (k := 2) (σ' := (252, [some (.ref 76), none], [.int (2 : Int32), .ref 76], (iq_sh l, w24, J7, X))) (fun _ => rfl) ?_
        refine iq_G_go (k := 1) (σ' := (255, [some (.ref 76), none], [], (iq_sh l, (iq_upI w24 76 23 (2 : Int32)), J7, X))) (fun _ => rfl) ?_
        obtain ⟨I25, eI25, h⟩ := ir_letG h
        rw [← eI25]
        clear eI25
        refine iq_G_go (k := 7) (σ' := (341, [some (.ref 76), none], [.int ((I25 76 22) - (I25 76 24)), .ref 76], (iq_sh l, I25, J7, X))) (fun _ => rfl) ?_
        refine iq_G_go (k := 1) (σ' := (344, [some (.ref 76), none], [], (iq_sh l, (iq_upI I25 76 25 ((I25 76 22) - (I25 76 24))), J7, X))) (fun _ => rfl) ?_
        obtain ⟨I26, eI26, h⟩ := ir_letG h
        rw [← eI26]
        clear eI26
        cases h
        exact iq_G_ret (fun _ => rfl)
    · refine iq_G_neg (c := q11 = 0) (σ1 := (108, [some (.ref 76), some (.int q9)], [], (iq_sh l, I10, J7, X))) (fun _ => rfl) hc_ ?_
      obtain ⟨w33, hw33, h⟩ := iq_bnd h
      refine iq_G_fg (L := [some (.ref 76), none]) (And.intro rfl trivial) ?_
      refine zM_goes_l108_ok l X hw33 _ ?_
      show iq_Gg 1 210 (172, [some (.ref 76), none], [], (iq_sh l, w33.1, w33.2, X)) _
      refine iq_G_go (k := 2) (σ' := (174, [some (.ref 76), none], [.int (1 : Int32), .ref 76], (iq_sh l, w33.1, w33.2, X))) (fun _ => rfl) ?_
      refine iq_G_go (k := 1) (σ' := (177, [some (.ref 76), none], [], (iq_sh l, (iq_upI w33.1 76 23 (1 : Int32)), w33.2, X))) (fun _ => rfl) ?_
      obtain ⟨I34, eI34, h⟩ := ir_letG h
      rw [← eI34]
      clear eI34
      refine iq_G_go (k := 7) (σ' := (341, [some (.ref 76), none], [.int ((I34 76 22) - (I34 76 24)), .ref 76], (iq_sh l, I34, w33.2, X))) (fun _ => rfl) ?_
      refine iq_G_go (k := 1) (σ' := (344, [some (.ref 76), none], [], (iq_sh l, (iq_upI I34 76 25 ((I34 76 22) - (I34 76 24))), w33.2, X))) (fun _ => rfl) ?_
      obtain ⟨I35, eI35, h⟩ := ir_letG h
      rw [← eI35]
      clear eI35
      cases h
      exact iq_G_ret (fun _ => rfl)
  · refine iq_G_neg (c := (I10 76 22) < (I10 76 21)) (σ1 := (93, [some (.ref 76), some (.int q9)], [], (iq_sh l, I10, J7, X))) (fun _ => rfl) hc_ ?_
    refine iq_G_go (k := 2) (σ' := (95, [some (.ref 76), some (.int q9)], [.int (0 : Int32), .ref 76], (iq_sh l, I10, J7, X))) (fun _ => rfl) ?_
    refine iq_G_go (k := 1) (σ' := (98, [some (.ref 76), some (.int q9)], [], (iq_sh l, (iq_upI I10 76 23 (0 : Int32)), J7, X))) (fun _ => rfl) ?_
    obtain ⟨I36, eI36, h⟩ := ir_letG h
    rw [← eI36]
    clear eI36
    refine iq_G_go (k := 1) (σ' := (331, [some (.ref 76), some (.int q9)], [], (iq_sh l, I36, J7, X))) (fun _ => rfl) ?_
    refine iq_G_go (k := 6) (σ' := (341, [some (.ref 76), some (.int q9)], [.int ((I36 76 22) - (I36 76 24)), .ref 76], (iq_sh l, I36, J7, X))) (fun _ => rfl) ?_
    refine iq_G_go (k := 1) (σ' := (344, [some (.ref 76), some (.int q9)], [], (iq_sh l, (iq_upI I36 76 25 ((I36 76 22) - (I36 76 24))), J7, X))) (fun _ => rfl) ?_
    obtain ⟨I37, eI37, h⟩ := ir_letG h
    rw [← eI37]
    clear eI37
    cases h
    exact iq_G_ret (fun _ => rfl)
set_option maxRecDepth 100000 in
theorem zM_goes_ok (l : Nat)   (I : iq_I) (J : iq_J) (X : iq_X) {q : iq_I × iq_J} (h : zM_goes I J = some q) : iq_Cc 2 210 [.ref 76] (iq_sh l, I, J, X) (.inl none, (iq_sh l, q.1, q.2, X)) := by
  refine iq_Cc_of (L := [some (.ref 76), none]) rfl rfl ?_
  unfold zM_goes at h
  obtain ⟨w5, hw5, h⟩ := iq_bnd h
  refine iq_G_fg (L := [some (.ref 76), none]) (And.intro rfl trivial) ?_
  refine zM_goes_l0_ok l J X hw5 _ ?_
  show iq_Gg 1 210 (50, [some (.ref 76), none], [], (iq_sh l, w5, J, X)) _
  exact iq_G_fg (L := [some (.ref 76), none]) (And.intro rfl trivial) (zM_goes_50_ok l w5 J X  h )
set_option maxRecDepth 100000 in
theorem zM_isGood_ok (l : Nat)   (I : iq_I) (J : iq_J) (X : iq_X) {q : Int32} (h : zM_isGood I = some q) : iq_Cc 1 215 [.ref 76] (iq_sh l, I, J, X) (.inl (some (.int q)), (iq_sh l, I, J, X)) := by
  refine iq_Cc_of (L := [some (.ref 76)]) rfl rfl ?_
  unfold zM_isGood at h
  refine iq_G_go (k := 2) (σ' := (4, [some (.ref 76)], [.int (I 76 18)], (iq_sh l, I, J, X))) (fun _ => rfl) ?_
  rcases iq_ite h with ⟨hc_, h⟩ | ⟨hc_, h⟩
  · refine iq_G_pos (c := ¬ (I 76 18) = 0) (σ1 := (11, [some (.ref 76)], [], (iq_sh l, I, J, X))) (fun _ => rfl) hc_ ?_
    refine iq_G_go (k := 1) (σ' := (12, [some (.ref 76)], [.int (0 : Int32)], (iq_sh l, I, J, X))) (fun _ => rfl) ?_
    cases h
    exact iq_G_ret (fun _ => rfl)
  · refine iq_G_neg (c := ¬ (I 76 18) = 0) (σ1 := (7, [some (.ref 76)], [], (iq_sh l, I, J, X))) (fun _ => rfl) hc_ ?_
    refine iq_G_go (k := 2) (σ' := (12, [some (.ref 76)], [.int (1 : Int32)], (iq_sh l, I, J, X))) (fun _ => rfl) ?_
    cases h
    exact iq_G_ret (fun _ => rfl)
set_option maxRecDepth 100000 in
theorem zM_spelled_84_ok (l : Nat)  (x6 : Int32) (y7 : Int64) (I : iq_I) (J : iq_J) (X : iq_X)  {q : Int64} (h : zM_spelled_84 x6 y7 I = some q)  : iq_Gg 0 211 (84, [none, none, none, none, none, none, some (.int x6), some (.long y7), none], [], (iq_sh l, I, J, X)) (.inl (some (.long q)), (iq_sh l, I, J, X)) := by
  unfold zM_spelled_84 at h
  refine iq_G_go (k := 1) (σ' := (86, [none, none, none, none, none, none, some (.int x6), some (.long y7), none], [.int x6], (iq_sh l, I, J, X))) (fun _ => rfl) ?_
  rcases iq_ite h with ⟨hc_, h⟩ | ⟨hc_, h⟩
  · refine iq_G_pos (c := x6 = 0) (σ1 := (102, [none, none, none, none, none, none, some (.int x6), some (.long y7), none], [], (iq_sh l, I, J, X))) (fun _ => rfl) hc_ ?_
    refine iq_G_go (k := 1) (σ' := (104, [none, none, none, none, none, none, some (.int x6), some (.long y7), none], [.long y7], (iq_sh l, I, J, X))) (fun _ => rfl) ?_
    cases h
    exact iq_G_ret (fun _ => rfl)
  · refine iq_G_neg (c := x6 = 0) (σ1 := (89, [none, none, none, none, none, none, some (.int x6), some (.long y7), none], [], (iq_sh l, I, J, X))) (fun _ => rfl) hc_ ?_
    refine iq_G_go (k := 10) (σ' := (104, [none, none, none, none, none, none, some (.int x6), some (.long ((y7 <<< (Int32.toInt64 (5 : Int32) &&& 63)) ||| (Int32.toInt64 (x6 - (96 : Int32))))), none], [.long ((y7 <<< (Int32.toInt64 (5 : Int32) &&& 63)) ||| (Int32.toInt64 (x6 - (96 : Int32))))], (iq_sh l, I, J, X))) (fun _ => rfl) ?_
    cases h
    exact iq_G_ret (fun _ => rfl)
set_option maxRecDepth 100000 in
theorem zM_spelled_66_ok (l : Nat)  (x5 : Int32) (x6 : Int32) (y7 : Int64) (I : iq_I) (J : iq_J) (X : iq_X)  {q : Int64} (h : zM_spelled_66 x5 x6 y7 I = some q)  : iq_Gg 0 211 (66, [none, none, none, none, none, some (.int x5), some (.int x6), some (.long y7), none], [], (iq_sh l, I, J, X)) (.inl (some (.long q)), (iq_sh l, I, J, X)) := by
  unfold zM_spelled_66 at h
  refine iq_G_go (k := 1) (σ' := (68, [none, none, none, none, none, some (.int x5), some (.int x6), some (.long y7), none], [.int x5], (iq_sh l, I, J, X))) (fun _ => rfl) ?_
  rcases iq_ite h with ⟨hc_, h⟩ | ⟨hc_, h⟩
  · refine iq_G_pos (c := x5 = 0) (σ1 := (84, [none, none, none, none, none, some (.int x5), some (.int x6), some (.long y7), none], [], (iq_sh l, I, J, X))) (fun _ => rfl) hc_ ?_
    exact iq_G_fg (L := [none, none, none, none, none, none, some (.int x6), some (.long y7), none]) (And.intro rfl (And.intro rfl trivial)) (zM_spelled_84_ok l x6 y7 I J X  h )
  · refine iq_G_neg (c := x5 = 0) (σ1 := (71, [none, none, none, none, none, some (.int x5), some (.int x6), some (.long y7), none], [], (iq_sh l, I, J, X))) (fun _ => rfl) hc_ ?_
    refine iq_G_go (k := 9) (σ' := (84, [none, none, none, none, none, some (.int x5), some (.int x6), some (.long ((y7 <<< (Int32.toInt64 (5 : Int32) &&& 63)) ||| (Int32.toInt64 (x5 - (96 : Int32))))), none], [], (iq_sh l, I, J, X))) (fun _ => rfl) ?_
    exact iq_G_fg (L := [none, none, none, none, none, none, some (.int x6), some (.long ((y7 <<< (Int32.toInt64 (5 : Int32) &&& 63)) ||| (Int32.toInt64 (x5 - (96 : Int32))))), none]) (And.intro rfl (And.intro rfl trivial)) (zM_spelled_84_ok l x6 ((y7 <<< (Int32.toInt64 (5 : Int32) &&& 63)) ||| (Int32.toInt64 (x5 - (96 : Int32)))) I J X  h )
set_option maxRecDepth 100000 in
theorem zM_spelled_48_ok (l : Nat)  (x4 : Int32) (x5 : Int32) (x6 : Int32) (y7 : Int64) (I : iq_I) (J : iq_J) (X : iq_X)  {q : Int64} (h : zM_spelled_48 x4 x5 x6 y7 I = some q)  : iq_Gg 0 211 (48, [none, none, none, none, some (.int x4), some (.int x5), some (.int x6), some (.long y7), none], [], (iq_sh l, I, J, X)) (.inl (some (.long q)), (iq_sh l, I, J, X)) := by
  unfold zM_spelled_48 at h
  refine iq_G_go (k := 1) (σ' := (50, [none, none, none, none, some (.int x4), some (.int x5), some (.int x6), some (.long y7), none], [.int x4], (iq_sh l, I, J, X))) (fun _ => rfl) ?_
  rcases iq_ite h with ⟨hc_, h⟩ | ⟨hc_, h⟩
  · refine iq_G_pos (c := x4 = 0) (σ1 := (66, [none, none, none, none, some (.int x4), some (.int x5), some (.int x6), some (.long y7), none], [], (iq_sh l, I, J, X))) (fun _ => rfl) hc_ ?_
    exact iq_G_fg (L := [none, none, none, none, none, some (.int x5), some (.int x6), some (.long y7), none]) (And.intro rfl (And.intro rfl (And.intro rfl trivial))) (zM_spelled_66_ok l x5 x6 y7 I J X  h )
  · refine iq_G_neg (c := x4 = 0) (σ1 := (53, [none, none, none, none, some (.int x4), some (.int x5), some (.int x6), some (.long y7), none], [], (iq_sh l, I, J, X))) (fun _ => rfl) hc_ ?_
    refine iq_G_go (k := 9) (σ' := (66, [none, none, none, none, some (.int x4), some (.int x5), some (.int x6), some (.long ((y7 <<< (Int32.toInt64 (5 : Int32) &&& 63)) ||| (Int32.toInt64 (x4 - (96 : Int32))))), none], [], (iq_sh l, I, J, X))) (fun _ => rfl) ?_
    exact iq_G_fg (L := [none, none, none, none, none, some (.int x5), some (.int x6), some (.long ((y7 <<< (Int32.toInt64 (5 : Int32) &&& 63)) ||| (Int32.toInt64 (x4 - (96 : Int32))))), none]) (And.intro rfl (And.intro rfl (And.intro rfl trivial))) (zM_spelled_66_ok l x5 x6 ((y7 <<< (Int32.toInt64 (5 : Int32) &&& 63)) ||| (Int32.toInt64 (x4 - (96 : Int32)))) I J X  h )
set_option maxRecDepth 100000 in
theorem zM_spelled_32_ok (l : Nat)  (x3 : Int32) (x4 : Int32) (x5 : Int32) (x6 : Int32) (y7 : Int64) (I : iq_I) (J : iq_J) (X : iq_X)  {q : Int64} (h : zM_spelled_32 x3 x4 x5 x6 y7 I = some q)  : iq_Gg 0 211 (32, [none, none, none, some (.int x3), some (.int x4), some (.int x5), some (.int x6), some (.long y7), none], [], (iq_sh l, I, J, X)) (.inl (some (.long q)), (iq_sh l, I, J, X)) := by
  unfold zM_spelled_32 at h
  refine iq_G_go (k := 1) (σ' := (33, [none, none, none, some (.int x3), some (.int x4), some (.int x5), some (.int x6), some (.long y7), none], [.int x3], (iq_sh l, I, J, X))) (fun _ => rfl) ?_
  rcases iq_ite h with ⟨hc_, h⟩ | ⟨hc_, h⟩
  · refine iq_G_pos (c := x3 = 0) (σ1 := (48, [none, none, none, some (.int x3), some (.int x4), some (.int x5), some (.int x6), some (.long y7), none], [], (iq_sh l, I, J, X))) (fun _ => rfl) hc_ ?_
    exact iq_G_fg (L := [none, none, none, none, some (.int x4), some (.int x5), some (.int x6), some (.long y7), none]) (And.intro rfl (And.intro rfl (And.intro rfl (And.intro rfl trivial)))) (zM_spelled_48_ok l x4 x5 x6 y7 I J X  h )
  · refine iq_G_neg (c := x3 = 0) (σ1 := (36, [none, none, none, some (.int x3), some (.int x4), some (.int x5), some (.int x6), some (.long y7), none], [], (iq_sh l, I, J, X))) (fun _ => rfl) hc_ ?_
    refine iq_G_go (k := 9) (σ' := (48, [none, none, none, some (.int x3), some (.int x4), some (.int x5), some (.int x6), some (.long ((y7 <<< (Int32.toInt64 (5 : Int32) &&& 63)) ||| (Int32.toInt64 (x3 - (96 : Int32))))), none], [], (iq_sh l, I, J, X))) (fun _ => rfl) ?_
    exact iq_G_fg (L := [none, none, none, none, some (.int x4), some (.int x5), some (.int x6), some (.long ((y7 <<< (Int32.toInt64 (5 : Int32) &&& 63)) ||| (Int32.toInt64 (x3 - (96 : Int32))))), none]) (And.intro rfl (And.intro rfl (And.intro rfl (And.intro rfl trivial)))) (zM_spelled_48_ok l x4 x5 x6 ((y7 <<< (Int32.toInt64 (5 : Int32) &&& 63)) ||| (Int32.toInt64 (x3 - (96 : Int32)))) I J X  h )
set_option maxRecDepth 100000 in
theorem zM_spelled_ok (l : Nat)  (x0 : Int32) (x1 : Int32) (x2 : Int32) (x3 : Int32) (x4 : Int32) (x5 : Int32) (x6 : Int32) (I : iq_I) (J : iq_J) (X : iq_X) {q : Int64} (h : zM_spelled x0 x1 x2 x3 x4 x5 x6 I = some q) : iq_Cc 1 211 [.int x0, .int x1, .int x2, .int x3, .int x4, .int x5, .int x6] (iq_sh l, I, J, X) (.inl (some (.long q)), (iq_sh l, I, J, X)) := by
  refine iq_Cc_of (L := [some (.int x0), some (.int x1), some (.int x2), some (.int x3), some (.int x4), some (.int x5), some (.int x6), none, none]) rfl rfl ?_
  unfold zM_spelled at h
  refine iq_G_go (k := 13) (σ' := (17, [some (.int x0), some (.int x1), some (.int x2), some (.int x3), some (.int x4), some (.int x5), some (.int x6), some (.long ((((Int32.toInt64 x0) - (96 : Int64)) <<< (Int32.toInt64 (5 : Int32) &&& 63)) ||| (Int32.toInt64 (x1 - (96 : Int32))))), none], [.int x2], (iq_sh l, I, J, X))) (fun _ => rfl) ?_
  rcases iq_ite h with ⟨hc_, h⟩ | ⟨hc_, h⟩
  · refine iq_G_pos (c := x2 = 0) (σ1 := (32, [some (.int x0), some (.int x1), some (.int x2), some (.int x3), some (.int x4), some (.int x5), some (.int x6), some (.long ((((Int32.toInt64 x0) - (96 : Int64)) <<< (Int32.toInt64 (5 : Int32) &&& 63)) ||| (Int32.toInt64 (x1 - (96 : Int32))))), none], [], (iq_sh l, I, J, X))) (fun _ => rfl) hc_ ?_
    exact iq_G_fg (L := [none, none, none, some (.int x3), some (.int x4), some (.int x5), some (.int x6), some (.long ((((Int32.toInt64 x0) - (96 : Int64)) <<< (Int32.toInt64 (5 : Int32) &&& 63)) ||| (Int32.toInt64 (x1 - (96 : Int32))))), none]) (And.intro rfl (And.intro rfl (And.intro rfl (And.intro rfl (And.intro rfl trivial))))) (zM_spelled_32_ok l x3 x4 x5 x6 ((((Int32.toInt64 x0) - (96 : Int64)) <<< (Int32.toInt64 (5 : Int32) &&& 63)) ||| (Int32.toInt64 (x1 - (96 : Int32)))) I J X  h )
  · refine iq_G_neg (c := x2 = 0) (σ1 := (20, [some (.int x0), some (.int x1), some (.int x2), some (.int x3), some (.int x4), some (.int x5), some (.int x6), some (.long ((((Int32.toInt64 x0) - (96 : Int64)) <<< (Int32.toInt64 (5 : Int32) &&& 63)) ||| (Int32.toInt64 (x1 - (96 : Int32))))), none], [], (iq_sh l, I, J, X))) (fun _ => rfl) hc_ ?_
    refine iq_G_go (k := 9) (σ' := (32, [some (.int x0), some (.int x1), some (.int x2), some (.int x3), some (.int x4), some (.int x5), some (.int x6), some (.long ((((((Int32.toInt64 x0) - (96 : Int64)) <<< (Int32.toInt64 (5 : Int32) &&& 63)) ||| (Int32.toInt64 (x1 - (96 : Int32)))) <<< (Int32.toInt64 (5 : Int32) &&& 63)) ||| (Int32.toInt64 (x2 - (96 : Int32))))), none], [], (iq_sh l, I, J, X))) (fun _ => rfl) ?_
    exact iq_G_fg (L := [none, none, none, some (.int x3), some (.int x4), some (.int x5), some (.int x6), some (.long ((((((Int32.toInt64 x0) - (96 : Int64)) <<< (Int32.toInt64 (5 : Int32) &&& 63)) ||| (Int32.toInt64 (x1 - (96 : Int32)))) <<< (Int32.toInt64 (5 : Int32) &&& 63)) ||| (Int32.toInt64 (x2 - (96 : Int32))))), none]) (And.intro rfl (And.intro rfl (And.intro rfl (And.intro rfl (And.intro rfl trivial))))) (zM_spelled_32_ok l x3 x4 x5 x6 ((((((Int32.toInt64 x0) - (96 : Int64)) <<< (Int32.toInt64 (5 : Int32) &&& 63)) ||| (Int32.toInt64 (x1 - (96 : Int32)))) <<< (Int32.toInt64 (5 : Int32) &&& 63)) ||| (Int32.toInt64 (x2 - (96 : Int32)))) I J X  h )
set_option maxRecDepth 100000 in
theorem zM_letters_80_ok (l : Nat)   (I : iq_I) (J : iq_J) (X : iq_X)  {q : Int64} (h : zM_letters_80 I = some q)  : iq_Gg 1 212 (80, [none], [], (iq_sh l, I, J, X)) (.inl (some (.long q)), (iq_sh l, I, J, X)) := by
  unfold zM_letters_80 at h
  refine iq_G_go (k := 7) (σ' := (91, [none], [.int (0 : Int32), .int (0 : Int32), .int (0 : Int32), .int (100 : Int32), .int (110 : Int32), .int (105 : Int32), .int (107 : Int32)], (iq_sh l, I, J, X))) (fun _ => rfl) ?_
  obtain ⟨q1, hq1, h⟩ := iq_bnd h
  refine iq_G_call (σ' := (94, [none], [.long q1], (iq_sh l, I, J, X))) (fun _ => rfl) (zM_spelled_ok l (107 : Int32) (105 : Int32) (110 : Int32) (100 : Int32) (0 : Int32) (0 : Int32) (0 : Int32) I J X hq1) rfl rfl ?_
  cases h
  exact iq_G_ret (fun _ => rfl)
set_option maxRecDepth 100000 in
theorem zM_letters_95_ok (l : Nat)   (I : iq_I) (J : iq_J) (X : iq_X)  {q : Int64} (h : zM_letters_95 I = some q)  : iq_Gg 1 212 (95, [none], [], (iq_sh l, I, J, X)) (.inl (some (.long q)), (iq_sh l, I, J, X)) := by
  unfold zM_letters_95 at h
  refine iq_G_go (k := 7) (σ' := (109, [none], [.int (115 : Int32), .int (114 : Int32), .int (101 : Int32), .int (116 : Int32), .int (116 : Int32), .int (101 : Int32), .int (108 : Int32)], (iq_sh l, I, J, X))) (fun _ => rfl) ?_
  obtain ⟨q2, hq2, h⟩ := iq_bnd h
  refine iq_G_call (σ' := (112, [none], [.long q2], (iq_sh l, I, J, X))) (fun _ => rfl) (zM_spelled_ok l (108 : Int32) (101 : Int32) (116 : Int32) (116 : Int32) (101 : Int32) (114 : Int32) (115 : Int32) I J X hq2) rfl rfl ?_
  cases h
  exact iq_G_ret (fun _ => rfl)
set_option maxRecDepth 100000 in
theorem zM_letters_113_ok (l : Nat)   (I : iq_I) (J : iq_J) (X : iq_X)  {q : Int64} (h : zM_letters_113 I = some q)  : iq_Gg 1 212 (113, [none], [], (iq_sh l, I, J, X)) (.inl (some (.long q)), (iq_sh l, I, J, X)) := by
  unfold zM_letters_113 at h
  refine iq_G_go (k := 7) (σ' := (124, [none], [.int (0 : Int32), .int (0 : Int32), .int (0 : Int32), .int (100 : Int32), .int (114 : Int32), .int (111 : Int32), .int (119 : Int32)], (iq_sh l, I, J, X))) (fun _ => rfl) ?_
  obtain ⟨q3, hq3, h⟩ := iq_bnd h
  refine iq_G_call (σ' := (127, [none], [.long q3], (iq_sh l, I, J, X))) (fun _ => rfl) (zM_spelled_ok l (119 : Int32) (111 : Int32) (114 : Int32) (100 : Int32) (0 : Int32) (0 : Int32) (0 : Int32) I J X hq3) rfl rfl ?_
  cases h
  exact iq_G_ret (fun _ => rfl)
set_option maxRecDepth 100000 in
theorem zM_letters_128_ok (l : Nat)   (I : iq_I) (J : iq_J) (X : iq_X)  {q : Int64} (h : zM_letters_128 I = some q)  : iq_Gg 1 212 (128, [none], [], (iq_sh l, I, J, X)) (.inl (some (.long q)), (iq_sh l, I, J, X)) := by
  unfold zM_letters_128 at h
  refine iq_G_go (k := 7) (σ' := (138, [none], [.int (0 : Int32), .int (0 : Int32), .int (0 : Int32), .int (0 : Int32), .int (121 : Int32), .int (97 : Int32), .int (100 : Int32)], (iq_sh l, I, J, X))) (fun _ => rfl) ?_
  obtain ⟨q4, hq4, h⟩ := iq_bnd h
  refine iq_G_call (σ' := (141, [none], [.long q4], (iq_sh l, I, J, X))) (fun _ => rfl) (zM_spelled_ok l (100 : Int32) (97 : Int32) (121 : Int32) (0 : Int32) (0 : Int32) (0 : Int32) (0 : Int32) I J X hq4) rfl rfl ?_
  cases h
  exact iq_G_ret (fun _ => rfl)
set_option maxRecDepth 100000 in
theorem zM_letters_142_ok (l : Nat)   (I : iq_I) (J : iq_J) (X : iq_X)  {q : Int64} (h : zM_letters_142 I = some q)  : iq_Gg 1 212 (142, [none], [], (iq_sh l, I, J, X)) (.inl (some (.long q)), (iq_sh l, I, J, X)) := by
  unfold zM_letters_142 at h
  refine iq_G_go (k := 7) (σ' := (153, [none], [.int (0 : Int32), .int (0 : Int32), .int (0 : Int32), .int (103 : Int32), .int (110 : Int32), .int (111 : Int32), .int (108 : Int32)], (iq_sh l, I, J, X))) (fun _ => rfl) ?_
  obtain ⟨q5, hq5, h⟩ := iq_bnd h
  refine iq_G_call (σ' := (156, [none], [.long q5], (iq_sh l, I, J, X))) (fun _ => rfl) (zM_spelled_ok l (108 : Int32) (111 : Int32) (110 : Int32) (103 : Int32) (0 : Int32) (0 : Int32) (0 : Int32) I J X hq5) rfl rfl ?_
  cases h
  exact iq_G_ret (fun _ => rfl)
set_option maxRecDepth 100000 in
theorem zM_letters_157_ok (l : Nat)   (I : iq_I) (J : iq_J) (X : iq_X)  {q : Int64} (h : zM_letters_157 I = some q)  : iq_Gg 1 212 (157, [none], [], (iq_sh l, I, J, X)) (.inl (some (.long q)), (iq_sh l, I, J, X)) := by
  unfold zM_letters_157 at h
  refine iq_G_go (k := 7) (σ' := (168, [none], [.int (0 : Int32), .int (0 : Int32), .int (0 : Int32), .int (101 : Int32), .int (109 : Int32), .int (97 : Int32), .int (115 : Int32)], (iq_sh l, I, J, X))) (fun _ => rfl) ?_
  obtain ⟨q6, hq6, h⟩ := iq_bnd h
  refine iq_G_call (σ' := (171, [none], [.long q6], (iq_sh l, I, J, X))) (fun _ => rfl) (zM_spelled_ok l (115 : Int32) (97 : Int32) (109 : Int32) (101 : Int32) (0 : Int32) (0 : Int32) (0 : Int32) I J X hq6) rfl rfl ?_
  cases h
  exact iq_G_ret (fun _ => rfl)
set_option maxRecDepth 100000 in
theorem zM_letters_172_ok (l : Nat)   (I : iq_I) (J : iq_J) (X : iq_X)  {q : Int64} (h : zM_letters_172 I = some q)  : iq_Gg 1 212 (172, [none], [], (iq_sh l, I, J, X)) (.inl (some (.long q)), (iq_sh l, I, J, X)) := by
  unfold zM_letters_172 at h
  refine iq_G_go (k := 7) (σ' := (185, [none], [.int (0 : Int32), .int (115 : Int32), .int (101 : Int32), .int (109 : Int32), .int (121 : Int32), .int (104 : Int32), .int (114 : Int32)], (iq_sh l, I, J, X))) (fun _ => rfl) ?_
  obtain ⟨q7, hq7, h⟩ := iq_bnd h
  refine iq_G_call (σ' := (188, [none], [.long q7], (iq_sh l, I, J, X))) (fun _ => rfl) (zM_spelled_ok l (114 : Int32) (104 : Int32) (121 : Int32) (109 : Int32) (101 : Int32) (115 : Int32) (0 : Int32) I J X hq7) rfl rfl ?_
  cases h
  exact iq_G_ret (fun _ => rfl)
set_option maxRecDepth 100000 in
theorem zM_letters_189_ok (l : Nat)   (I : iq_I) (J : iq_J) (X : iq_X)  {q : Int64} (h : zM_letters_189 I = some q)  : iq_Gg 1 212 (189, [none], [], (iq_sh l, I, J, X)) (.inl (some (.long q)), (iq_sh l, I, J, X)) := by
  unfold zM_letters_189 at h
  refine iq_G_go (k := 7) (σ' := (201, [none], [.int (0 : Int32), .int (0 : Int32), .int (101 : Int32), .int (116 : Int32), .int (97 : Int32), .int (116 : Int32), .int (115 : Int32)], (iq_sh l, I, J, X))) (fun _ => rfl) ?_
  obtain ⟨q8, hq8, h⟩ := iq_bnd h
  refine iq_G_call (σ' := (204, [none], [.long q8], (iq_sh l, I, J, X))) (fun _ => rfl) (zM_spelled_ok l (115 : Int32) (116 : Int32) (97 : Int32) (116 : Int32) (101 : Int32) (0 : Int32) (0 : Int32) I J X hq8) rfl rfl ?_
  cases h
  exact iq_G_ret (fun _ => rfl)
set_option maxRecDepth 100000 in
theorem zM_letters_205_ok (l : Nat)   (I : iq_I) (J : iq_J) (X : iq_X)  {q : Int64} (h : zM_letters_205 I = some q)  : iq_Gg 1 212 (205, [none], [], (iq_sh l, I, J, X)) (.inl (some (.long q)), (iq_sh l, I, J, X)) := by
  unfold zM_letters_205 at h
  refine iq_G_go (k := 7) (σ' := (215, [none], [.int (0 : Int32), .int (0 : Int32), .int (0 : Int32), .int (0 : Int32), .int (100 : Int32), .int (110 : Int32), .int (101 : Int32)], (iq_sh l, I, J, X))) (fun _ => rfl) ?_
  obtain ⟨q9, hq9, h⟩ := iq_bnd h
  refine iq_G_call (σ' := (218, [none], [.long q9], (iq_sh l, I, J, X))) (fun _ => rfl) (zM_spelled_ok l (101 : Int32) (110 : Int32) (100 : Int32) (0 : Int32) (0 : Int32) (0 : Int32) (0 : Int32) I J X hq9) rfl rfl ?_
  cases h
  exact iq_G_ret (fun _ => rfl)
set_option maxRecDepth 100000 in
theorem zM_letters_219_ok (l : Nat)   (I : iq_I) (J : iq_J) (X : iq_X)  {q : Int64} (h : zM_letters_219 I = some q)  : iq_Gg 1 212 (219, [none], [], (iq_sh l, I, J, X)) (.inl (some (.long q)), (iq_sh l, I, J, X)) := by
  unfold zM_letters_219 at h
  refine iq_G_go (k := 7) (σ' := (229, [none], [.int (0 : Int32), .int (0 : Int32), .int (0 : Int32), .int (0 : Int32), .int (99 : Int32), .int (114 : Int32), .int (97 : Int32)], (iq_sh l, I, J, X))) (fun _ => rfl) ?_
  obtain ⟨q10, hq10, h⟩ := iq_bnd h
  refine iq_G_call (σ' := (232, [none], [.long q10], (iq_sh l, I, J, X))) (fun _ => rfl) (zM_spelled_ok l (97 : Int32) (114 : Int32) (99 : Int32) (0 : Int32) (0 : Int32) (0 : Int32) (0 : Int32) I J X hq10) rfl rfl ?_
  cases h
  exact iq_G_ret (fun _ => rfl)
set_option maxRecDepth 100000 in
theorem zM_letters_233_ok (l : Nat)   (I : iq_I) (J : iq_J) (X : iq_X)  {q : Int64} (h : zM_letters_233 I = some q)  : iq_Gg 1 212 (233, [none], [], (iq_sh l, I, J, X)) (.inl (some (.long q)), (iq_sh l, I, J, X)) := by
  unfold zM_letters_233 at h
  refine iq_G_go (k := 7) (σ' := (244, [none], [.int (0 : Int32), .int (0 : Int32), .int (0 : Int32), .int (116 : Int32), .int (115 : Int32), .int (111 : Int32), .int (99 : Int32)], (iq_sh l, I, J, X))) (fun _ => rfl) ?_
  obtain ⟨q11, hq11, h⟩ := iq_bnd h
  refine iq_G_call (σ' := (247, [none], [.long q11], (iq_sh l, I, J, X))) (fun _ => rfl) (zM_spelled_ok l (99 : Int32) (111 : Int32) (115 : Int32) (116 : Int32) (0 : Int32) (0 : Int32) (0 : Int32) I J X hq11) rfl rfl ?_
  cases h
  exact iq_G_ret (fun _ => rfl)
set_option maxRecDepth 100000 in
theorem zM_letters_248_ok (l : Nat)   (I : iq_I) (J : iq_J) (X : iq_X)  {q : Int64} (h : zM_letters_248 I = some q)  : iq_Gg 1 212 (248, [none], [], (iq_sh l, I, J, X)) (.inl (some (.long q)), (iq_sh l, I, J, X)) := by
  unfold zM_letters_248 at h
  refine iq_G_go (k := 7) (σ' := (261, [none], [.int (0 : Int32), .int (103 : Int32), .int (110 : Int32), .int (105 : Int32), .int (121 : Int32), .int (97 : Int32), .int (115 : Int32)], (iq_sh l, I, J, X))) (fun _ => rfl) ?_
  obtain ⟨q12, hq12, h⟩ := iq_bnd h
  refine iq_G_call (σ' := (264, [none], [.long q12], (iq_sh l, I, J, X))) (fun _ => rfl) (zM_spelled_ok l (115 : Int32) (97 : Int32) (121 : Int32) (105 : Int32) (110 : Int32) (103 : Int32) (0 : Int32) I J X hq12) rfl rfl ?_
  cases h
  exact iq_G_ret (fun _ => rfl)
set_option maxRecDepth 100000 in
theorem zM_letters_265_ok (l : Nat)   (I : iq_I) (J : iq_J) (X : iq_X)  {q : Int64} (h : zM_letters_265 I = some q)  : iq_Gg 1 212 (265, [none], [], (iq_sh l, I, J, X)) (.inl (some (.long q)), (iq_sh l, I, J, X)) := by
  unfold zM_letters_265 at h
  refine iq_G_go (k := 7) (σ' := (277, [none], [.int (0 : Int32), .int (0 : Int32), .int (116 : Int32), .int (105 : Int32), .int (98 : Int32), .int (97 : Int32), .int (104 : Int32)], (iq_sh l, I, J, X))) (fun _ => rfl) ?_
  obtain ⟨q13, hq13, h⟩ := iq_bnd h
  refine iq_G_call (σ' := (280, [none], [.long q13], (iq_sh l, I, J, X))) (fun _ => rfl) (zM_spelled_ok l (104 : Int32) (97 : Int32) (98 : Int32) (105 : Int32) (116 : Int32) (0 : Int32) (0 : Int32) I J X hq13) rfl rfl ?_
  cases h
  exact iq_G_ret (fun _ => rfl)
set_option maxRecDepth 100000 in
theorem zM_letters_281_ok (l : Nat)   (I : iq_I) (J : iq_J) (X : iq_X)  {q : Int64} (h : zM_letters_281 I = some q)  : iq_Gg 1 212 (281, [none], [], (iq_sh l, I, J, X)) (.inl (some (.long q)), (iq_sh l, I, J, X)) := by
  unfold zM_letters_281 at h
  refine iq_G_go (k := 7) (σ' := (291, [none], [.int (0 : Int32), .int (0 : Int32), .int (0 : Int32), .int (0 : Int32), .int (119 : Int32), .int (97 : Int32), .int (108 : Int32)], (iq_sh l, I, J, X))) (fun _ => rfl) ?_
  obtain ⟨q14, hq14, h⟩ := iq_bnd h
  refine iq_G_call (σ' := (294, [none], [.long q14], (iq_sh l, I, J, X))) (fun _ => rfl) (zM_spelled_ok l (108 : Int32) (97 : Int32) (119 : Int32) (0 : Int32) (0 : Int32) (0 : Int32) (0 : Int32) I J X hq14) rfl rfl ?_
  cases h
  exact iq_G_ret (fun _ => rfl)
set_option maxRecDepth 100000 in
theorem zM_letters_295_ok (l : Nat)   (I : iq_I) (J : iq_J) (X : iq_X)  {q : Int64} (h : zM_letters_295 I = some q)  : iq_Gg 1 212 (295, [none], [], (iq_sh l, I, J, X)) (.inl (some (.long q)), (iq_sh l, I, J, X)) := by
  unfold zM_letters_295 at h
  refine iq_G_go (k := 7) (σ' := (305, [none], [.int (0 : Int32), .int (0 : Int32), .int (0 : Int32), .int (0 : Int32), .int (100 : Int32), .int (110 : Int32), .int (97 : Int32)], (iq_sh l, I, J, X))) (fun _ => rfl) ?_
  obtain ⟨q15, hq15, h⟩ := iq_bnd h
  refine iq_G_call (σ' := (308, [none], [.long q15], (iq_sh l, I, J, X))) (fun _ => rfl) (zM_spelled_ok l (97 : Int32) (110 : Int32) (100 : Int32) (0 : Int32) (0 : Int32) (0 : Int32) (0 : Int32) I J X hq15) rfl rfl ?_
  cases h
  exact iq_G_ret (fun _ => rfl)
set_option maxRecDepth 100000 in
theorem zM_letters_309_ok (l : Nat)   (I : iq_I) (J : iq_J) (X : iq_X)  {q : Int64} (h : zM_letters_309 I = some q)  : iq_Gg 1 212 (309, [none], [], (iq_sh l, I, J, X)) (.inl (some (.long q)), (iq_sh l, I, J, X)) := by
  unfold zM_letters_309 at h
  refine iq_G_go (k := 7) (σ' := (318, [none], [.int (0 : Int32), .int (0 : Int32), .int (0 : Int32), .int (0 : Int32), .int (0 : Int32), .int (114 : Int32), .int (111 : Int32)], (iq_sh l, I, J, X))) (fun _ => rfl) ?_
  obtain ⟨q16, hq16, h⟩ := iq_bnd h
  refine iq_G_call (σ' := (321, [none], [.long q16], (iq_sh l, I, J, X))) (fun _ => rfl) (zM_spelled_ok l (111 : Int32) (114 : Int32) (0 : Int32) (0 : Int32) (0 : Int32) (0 : Int32) (0 : Int32) I J X hq16) rfl rfl ?_
  cases h
  exact iq_G_ret (fun _ => rfl)
set_option maxRecDepth 100000 in
theorem zM_letters_322_ok (l : Nat)   (I : iq_I) (J : iq_J) (X : iq_X)  {q : Int64} (h : zM_letters_322 I = some q)  : iq_Gg 1 212 (322, [none], [], (iq_sh l, I, J, X)) (.inl (some (.long q)), (iq_sh l, I, J, X)) := by
  unfold zM_letters_322 at h
  refine iq_G_go (k := 7) (σ' := (332, [none], [.int (0 : Int32), .int (0 : Int32), .int (0 : Int32), .int (0 : Int32), .int (116 : Int32), .int (111 : Int32), .int (110 : Int32)], (iq_sh l, I, J, X))) (fun _ => rfl) ?_
  obtain ⟨q17, hq17, h⟩ := iq_bnd h
  refine iq_G_call (σ' := (335, [none], [.long q17], (iq_sh l, I, J, X))) (fun _ => rfl) (zM_spelled_ok l (110 : Int32) (111 : Int32) (116 : Int32) (0 : Int32) (0 : Int32) (0 : Int32) (0 : Int32) I J X hq17) rfl rfl ?_
  cases h
  exact iq_G_ret (fun _ => rfl)
set_option maxRecDepth 100000 in
theorem zM_letters_ok (l : Nat)  (x0 : Int32) (I : iq_I) (J : iq_J) (X : iq_X) {q : Int64} (h : zM_letters x0 I = some q) : iq_Cc 2 212 [.int x0] (iq_sh l, I, J, X) (.inl (some (.long q)), (iq_sh l, I, J, X)) := by
  refine iq_Cc_of (L := [some (.int x0)]) rfl rfl ?_
  unfold zM_letters at h
  refine iq_G_go (k := 1) (σ' := (1, [some (.int x0)], [.int x0], (iq_sh l, I, J, X))) (fun _ => rfl) ?_
  rcases iq_ite h with ⟨e0, h⟩ | ⟨n0, h⟩
  · refine iq_G_sw (σ' := (80, [some (.int x0)], [], (iq_sh l, I, J, X))) (fun _ => rfl) (by rw [e0]; rfl) ?_
    exact iq_G_fg (L := [none]) trivial (zM_letters_80_ok l I J X  h )
  rcases iq_ite h with ⟨e1, h⟩ | ⟨n1, h⟩
  · refine iq_G_sw (σ' := (95, [some (.int x0)], [], (iq_sh l, I, J, X))) (fun _ => rfl) (by rw [e1]; rfl) ?_
    exact iq_G_fg (L := [none]) trivial (zM_letters_95_ok l I J X  h )
  rcases iq_ite h with ⟨e2, h⟩ | ⟨n2, h⟩
  · refine iq_G_sw (σ' := (113, [some (.int x0)], [], (iq_sh l, I, J, X))) (fun _ => rfl) (by rw [e2]; rfl) ?_
    exact iq_G_fg (L := [none]) trivial (zM_letters_113_ok l I J X  h )
  rcases iq_ite h with ⟨e3, h⟩ | ⟨n3, h⟩
  · refine iq_G_sw (σ' := (128, [some (.int x0)], [], (iq_sh l, I, J, X))) (fun _ => rfl) (by rw [e3]; rfl) ?_
    exact iq_G_fg (L := [none]) trivial (zM_letters_128_ok l I J X  h )
  rcases iq_ite h with ⟨e4, h⟩ | ⟨n4, h⟩
  · refine iq_G_sw (σ' := (142, [some (.int x0)], [], (iq_sh l, I, J, X))) (fun _ => rfl) (by rw [e4]; rfl) ?_
    exact iq_G_fg (L := [none]) trivial (zM_letters_142_ok l I J X  h )
  rcases iq_ite h with ⟨e5, h⟩ | ⟨n5, h⟩
  · refine iq_G_sw (σ' := (157, [some (.int x0)], [], (iq_sh l, I, J, X))) (fun _ => rfl) (by rw [e5]; rfl) ?_
    exact iq_G_fg (L := [none]) trivial (zM_letters_157_ok l I J X  h )
  rcases iq_ite h with ⟨e6, h⟩ | ⟨n6, h⟩
  · refine iq_G_sw (σ' := (172, [some (.int x0)], [], (iq_sh l, I, J, X))) (fun _ => rfl) (by rw [e6]; rfl) ?_
    exact iq_G_fg (L := [none]) trivial (zM_letters_172_ok l I J X  h )
  rcases iq_ite h with ⟨e7, h⟩ | ⟨n7, h⟩
  · refine iq_G_sw (σ' := (189, [some (.int x0)], [], (iq_sh l, I, J, X))) (fun _ => rfl) (by rw [e7]; rfl) ?_
    exact iq_G_fg (L := [none]) trivial (zM_letters_189_ok l I J X  h )
  rcases iq_ite h with ⟨e8, h⟩ | ⟨n8, h⟩
  · refine iq_G_sw (σ' := (205, [some (.int x0)], [], (iq_sh l, I, J, X))) (fun _ => rfl) (by rw [e8]; rfl) ?_
    exact iq_G_fg (L := [none]) trivial (zM_letters_205_ok l I J X  h )
  rcases iq_ite h with ⟨e9, h⟩ | ⟨n9, h⟩
  · refine iq_G_sw (σ' := (219, [some (.int x0)], [], (iq_sh l, I, J, X))) (fun _ => rfl) (by rw [e9]; rfl) ?_
    exact iq_G_fg (L := [none]) trivial (zM_letters_219_ok l I J X  h )
  rcases iq_ite h with ⟨e10, h⟩ | ⟨n10, h⟩
  · refine iq_G_sw (σ' := (233, [some (.int x0)], [], (iq_sh l, I, J, X))) (fun _ => rfl) (by rw [e10]; rfl) ?_
    exact iq_G_fg (L := [none]) trivial (zM_letters_233_ok l I J X  h )
  rcases iq_ite h with ⟨e11, h⟩ | ⟨n11, h⟩
  · refine iq_G_sw (σ' := (248, [some (.int x0)], [], (iq_sh l, I, J, X))) (fun _ => rfl) (by rw [e11]; rfl) ?_
    exact iq_G_fg (L := [none]) trivial (zM_letters_248_ok l I J X  h )
  rcases iq_ite h with ⟨e12, h⟩ | ⟨n12, h⟩
  · refine iq_G_sw (σ' := (265, [some (.int x0)], [], (iq_sh l, I, J, X))) (fun _ => rfl) (by rw [e12]; rfl) ?_
    exact iq_G_fg (L := [none]) trivial (zM_letters_265_ok l I J X  h )
  rcases iq_ite h with ⟨e13, h⟩ | ⟨n13, h⟩
  · refine iq_G_sw (σ' := (281, [some (.int x0)], [], (iq_sh l, I, J, X))) (fun _ => rfl) (by rw [e13]; rfl) ?_
    exact iq_G_fg (L := [none]) trivial (zM_letters_281_ok l I J X  h )
  rcases iq_ite h with ⟨e14, h⟩ | ⟨n14, h⟩
  · refine iq_G_sw (σ' := (295, [some (.int x0)], [], (iq_sh l, I, J, X))) (fun _ => rfl) (by rw [e14]; rfl) ?_
    exact iq_G_fg (L := [none]) trivial (zM_letters_295_ok l I J X  h )
  rcases iq_ite h with ⟨e15, h⟩ | ⟨n15, h⟩
  · refine iq_G_sw (σ' := (309, [some (.int x0)], [], (iq_sh l, I, J, X))) (fun _ => rfl) (by rw [e15]; rfl) ?_
    exact iq_G_fg (L := [none]) trivial (zM_letters_309_ok l I J X  h )
  refine iq_G_sw (σ' := (322, [some (.int x0)], [], (iq_sh l, I, J, X))) (fun _ => rfl) ((Eq.trans (ir_swn n0 rfl) (Eq.trans (ir_swn n1 rfl) (Eq.trans (ir_swn n2 rfl) (Eq.trans (ir_swn n3 rfl) (Eq.trans (ir_swn n4 rfl) (Eq.trans (ir_swn n5 rfl) (Eq.trans (ir_swn n6 rfl) (Eq.trans (ir_swn n7 rfl) (Eq.trans (ir_swn n8 rfl) (Eq.trans (ir_swn n9 rfl) (Eq.trans (ir_swn n10 rfl) (Eq.trans (ir_swn n11 rfl) (Eq.trans (ir_swn n12 rfl) (Eq.trans (ir_swn n13 rfl) (Eq.trans (ir_swn n14 rfl) (Eq.trans (ir_swn n15 rfl) rfl))))))))))))))))) ?_
  exact iq_G_fg (L := [none]) trivial (zM_letters_322_ok l I J X  h )
set_option maxRecDepth 100000 in
theorem zM_knownWord_l21_bok (l : Nat)   (I : iq_I) (J : iq_J) (X : iq_X) (x1 : Int32)  {q : (Int32) ⊕ ((Unit) ⊕ (Int32))} (h : zM_knownWord_l21_b I J x1 = some q) (r : iq_R × iq_M) (hc : ∀ v, q = .inl v → iq_Gg 2 213 (21, [some (.ref 76), some (.int v)], [], (iq_sh l, I, J, X)) r) (hx : ∀ w, q = .inr w → (∀ a, w = .inl a → iq_Gg 2 213 (47, [none, none], [], (iq_sh l, I, J, X)) r) ∧ (∀ b, w = .inr b → r = (.inl (some (.int b)), (iq_sh l, I, J, X)))) : iq_Gg 2 213 (21, [some (.ref 76), some (.int x1)], [], (iq_sh l, I, J, X)) r := by
  unfold zM_knownWord_l21_b at h
  refine iq_G_go (k := 2) (σ' := (24, [some (.ref 76), some (.int x1)], [.int (17 : Int32), .int x1], (iq_sh l, I, J, X))) (fun _ => rfl) ?_
  rcases iq_ite h with ⟨hc_, h⟩ | ⟨hc_, h⟩
  · refine iq_G_pos (c := (17 : Int32) ≤ x1) (σ1 := (47, [some (.ref 76), some (.int x1)], [], (iq_sh l, I, J, X))) (fun _ => rfl) hc_ ?_
    cases h
    exact iq_G_fg (L := [none, none]) trivial ((hx (.inl ()) rfl).1 () rfl)
  · refine iq_G_neg (c := (17 : Int32) ≤ x1) (σ1 := (27, [some (.ref 76), some (.int x1)], [], (iq_sh l, I, J, X))) (fun _ => rfl) hc_ ?_
    refine iq_G_go (k := 1) (σ' := (28, [some (.ref 76), some (.int x1)], [.int x1], (iq_sh l, I, J, X))) (fun _ => rfl) ?_
    obtain ⟨q1, hq1, h⟩ := iq_bnd h
    refine iq_G_call (σ' := (31, [some (.ref 76), some (.int x1)], [.long q1], (iq_sh l, I, J, X))) (fun _ => rfl) (zM_letters_ok l x1 I J X hq1) rfl rfl ?_
    refine iq_G_go (k := 3) (σ' := (36, [some (.ref 76), some (.int x1)], [.int (lg_cmp q1 (J 76 28))], (iq_sh l, I, J, X))) (fun _ => rfl) ?_
    rcases iq_ite h with ⟨hc_, h⟩ | ⟨hc_, h⟩
    · refine iq_G_pos (c := ¬ (lg_cmp q1 (J 76 28)) = 0) (σ1 := (41, [some (.ref 76), some (.int x1)], [], (iq_sh l, I, J, X))) (fun _ => rfl) hc_ ?_
      refine iq_G_go (k := 2) (σ' := (21, [some (.ref 76), some (.int (x1 + (1 : Int32)))], [], (iq_sh l, I, J, X))) (fun _ => rfl) ?_
      cases h
      exact iq_G_fg (L := [some (.ref 76), some (.int (x1 + (1 : Int32)))]) (And.intro rfl (And.intro rfl trivial)) (hc (x1 + (1 : Int32)) rfl)
    · refine iq_G_neg (c := ¬ (lg_cmp q1 (J 76 28)) = 0) (σ1 := (39, [some (.ref 76), some (.int x1)], [], (iq_sh l, I, J, X))) (fun _ => rfl) hc_ ?_
      refine iq_G_go (k := 1) (σ' := (40, [some (.ref 76), some (.int x1)], [.int x1], (iq_sh l, I, J, X))) (fun _ => rfl) ?_
      cases h
      obtain rfl := (hx _ rfl).2 _ rfl
      exact iq_G_ret (fun _ => rfl)
set_option maxRecDepth 100000 in
theorem zM_knownWord_l21_ok (l : Nat)   (I : iq_I) (J : iq_J) (X : iq_X) {n : Nat} {v : Int32} {w : (Unit) ⊕ (Int32)} (h : zM_knownWord_l21 I J n v = some w) (r : iq_R × iq_M) (hq : (∀ a, w = .inl a → iq_Gg 2 213 (47, [none, none], [], (iq_sh l, I, J, X)) r) ∧ (∀ b, w = .inr b → r = (.inl (some (.int b)), (iq_sh l, I, J, X)))) : iq_Gg 2 213 (21, [some (.ref 76), some (.int v)], [], (iq_sh l, I, J, X)) r :=
  iq_lp_ok (σ := fun v => (21, [some (.ref 76), some (.int v)], [], (iq_sh l, I, J, X))) (Q := fun w r => (∀ a, w = .inl a → iq_Gg 2 213 (47, [none, none], [], (iq_sh l, I, J, X)) r) ∧ (∀ b, w = .inr b → r = (.inl (some (.int b)), (iq_sh l, I, J, X)))) (fun v q hv r h1 h2 => zM_knownWord_l21_bok l I J X v hv r h1 h2) h r hq
set_option maxRecDepth 100000 in
theorem zM_knownWord_ok (l : Nat)   (I : iq_I) (J : iq_J) (X : iq_X) {q : Int32} (h : zM_knownWord I J = some q) : iq_Cc 3 213 [.ref 76] (iq_sh l, I, J, X) (.inl (some (.int q)), (iq_sh l, I, J, X)) := by
  refine iq_Cc_of (L := [some (.ref 76), none]) rfl rfl ?_
  unfold zM_knownWord at h
  refine iq_G_go (k := 3) (σ' := (5, [some (.ref 76), none], [.int (1 : Int32), .int (I 76 23)], (iq_sh l, I, J, X))) (fun _ => rfl) ?_
  rcases iq_ite h with ⟨hc_, h⟩ | ⟨hc_, h⟩
  · refine iq_G_pos (c := ¬ (I 76 23) = (1 : Int32)) (σ1 := (17, [some (.ref 76), none], [], (iq_sh l, I, J, X))) (fun _ => rfl) hc_ ?_
    refine iq_G_go (k := 1) (σ' := (18, [some (.ref 76), none], [.int (-1 : Int32)], (iq_sh l, I, J, X))) (fun _ => rfl) ?_
    cases h
    exact iq_G_ret (fun _ => rfl)
  · refine iq_G_neg (c := ¬ (I 76 23) = (1 : Int32)) (σ1 := (8, [some (.ref 76), none], [], (iq_sh l, I, J, X))) (fun _ => rfl) hc_ ?_
    refine iq_G_go (k := 3) (σ' := (14, [some (.ref 76), none], [.int (7 : Int32), .int (I 76 25)], (iq_sh l, I, J, X))) (fun _ => rfl) ?_
    rcases iq_ite h with ⟨hc_, h⟩ | ⟨hc_, h⟩
    · refine iq_G_pos (c := (I 76 25) ≤ (7 : Int32)) (σ1 := (19, [some (.ref 76), none], [], (iq_sh l, I, J, X))) (fun _ => rfl) hc_ ?_
      refine iq_G_go (k := 2) (σ' := (21, [some (.ref 76), some (.int (0 : Int32))], [], (iq_sh l, I, J, X))) (fun _ => rfl) ?_
      obtain ⟨w2, hw2, h⟩ := iq_bnd h
      refine iq_G_fg (L := [some (.ref 76), some (.int (0 : Int32))]) (And.intro rfl (And.intro rfl trivial)) ?_
      refine zM_knownWord_l21_ok l I J X hw2 _ ⟨fun a3 ha => ?_, fun b4 hb => ?_⟩
      · subst ha
        replace h := ir_smL h
        show iq_Gg 2 213 (47, [none, none], [], (iq_sh l, I, J, X)) _
        refine iq_G_go (k := 1) (σ' := (48, [none, none], [.int (-1 : Int32)], (iq_sh l, I, J, X))) (fun _ => rfl) ?_
        cases h
        exact iq_G_ret (fun _ => rfl)
      · subst hb
        replace h := ir_smR h
        cases h
        rfl
    · refine iq_G_neg (c := (I 76 25) ≤ (7 : Int32)) (σ1 := (17, [some (.ref 76), none], [], (iq_sh l, I, J, X))) (fun _ => rfl) hc_ ?_
      refine iq_G_go (k := 1) (σ' := (18, [some (.ref 76), none], [.int (-1 : Int32)], (iq_sh l, I, J, X))) (fun _ => rfl) ?_
      cases h
      exact iq_G_ret (fun _ => rfl)
set_option maxRecDepth 100000 in
theorem zM_wrong_ok (l : Nat)  (x1 : Int32) (I : iq_I) (J : iq_J) (X : iq_X) {q : iq_I} (h : zM_wrong x1 I = some q) : iq_Cc 1 214 [.ref 76, .int x1] (iq_sh l, I, J, X) (.inl none, (iq_sh l, q, J, X)) := by
  refine iq_Cc_of (L := [some (.ref 76), some (.int x1)]) rfl rfl ?_
  unfold zM_wrong at h
  refine iq_G_go (k := 2) (σ' := (4, [some (.ref 76), some (.int x1)], [.int (I 76 18)], (iq_sh l, I, J, X))) (fun _ => rfl) ?_
  rcases iq_ite h with ⟨hc_, h⟩ | ⟨hc_, h⟩
  · refine iq_G_pos (c := (I 76 18) = 0) (σ1 := (8, [some (.ref 76), some (.int x1)], [], (iq_sh l, I, J, X))) (fun _ => rfl) hc_ ?_
    refine iq_G_go (k := 2) (σ' := (10, [some (.ref 76), some (.int x1)], [.int x1, .ref 76], (iq_sh l, I, J, X))) (fun _ => rfl) ?_
    refine iq_G_go (k := 1) (σ' := (13, [some (.ref 76), some (.int x1)], [], (iq_sh l, (iq_upI I 76 18 x1), J, X))) (fun _ => rfl) ?_
    obtain ⟨I1, eI1, h⟩ := ir_letG h
    rw [← eI1]
    clear eI1
    refine iq_G_go (k := 3) (σ' := (18, [some (.ref 76), some (.int x1)], [.int (I1 76 24), .ref 76], (iq_sh l, I1, J, X))) (fun _ => rfl) ?_
    refine iq_G_go (k := 1) (σ' := (21, [some (.ref 76), some (.int x1)], [], (iq_sh l, (iq_upI I1 76 19 (I1 76 24)), J, X))) (fun _ => rfl) ?_
    obtain ⟨I2, eI2, h⟩ := ir_letG h
    rw [← eI2]
    clear eI2
    cases h
    exact iq_G_ret (fun _ => rfl)
  · refine iq_G_neg (c := (I 76 18) = 0) (σ1 := (7, [some (.ref 76), some (.int x1)], [], (iq_sh l, I, J, X))) (fun _ => rfl) hc_ ?_
    cases h
    exact iq_G_ret (fun _ => rfl)
set_option maxRecDepth 100000 in
theorem zM_isSign_ok (l : Nat)  (x1 : Int32) (I : iq_I) (J : iq_J) (X : iq_X) {q : Int32} (h : zM_isSign x1 I = some q) : iq_Cc 1 216 [.ref 76, .int x1] (iq_sh l, I, J, X) (.inl (some (.int q)), (iq_sh l, I, J, X)) := by
  refine iq_Cc_of (L := [some (.ref 76), some (.int x1)]) rfl rfl ?_
  unfold zM_isSign at h
  refine iq_G_go (k := 3) (σ' := (5, [some (.ref 76), some (.int x1)], [.int (3 : Int32), .int (I 76 23)], (iq_sh l, I, J, X))) (fun _ => rfl) ?_
  rcases iq_ite h with ⟨hc_, h⟩ | ⟨hc_, h⟩
  · refine iq_G_pos (c := ¬ (I 76 23) = (3 : Int32)) (σ1 := (20, [some (.ref 76), some (.int x1)], [], (iq_sh l, I, J, X))) (fun _ => rfl) hc_ ?_
    refine iq_G_go (k := 1) (σ' := (21, [some (.ref 76), some (.int x1)], [.int (0 : Int32)], (iq_sh l, I, J, X))) (fun _ => rfl) ?_
    cases h
    exact iq_G_ret (fun _ => rfl)
  · refine iq_G_neg (c := ¬ (I 76 23) = (3 : Int32)) (σ1 := (8, [some (.ref 76), some (.int x1)], [], (iq_sh l, I, J, X))) (fun _ => rfl) hc_ ?_
    refine iq_G_go (k := 3) (σ' := (13, [some (.ref 76), some (.int x1)], [.int x1, .int (I 76 27)], (iq_sh l, I, J, X))) (fun _ => rfl) ?_
    rcases iq_ite h with ⟨hc_, h⟩ | ⟨hc_, h⟩
    · refine iq_G_pos (c := ¬ (I 76 27) = x1) (σ1 := (20, [some (.ref 76), some (.int x1)], [], (iq_sh l, I, J, X))) (fun _ => rfl) hc_ ?_
      refine iq_G_go (k := 1) (σ' := (21, [some (.ref 76), some (.int x1)], [.int (0 : Int32)], (iq_sh l, I, J, X))) (fun _ => rfl) ?_
      cases h
      exact iq_G_ret (fun _ => rfl)
    · refine iq_G_neg (c := ¬ (I 76 27) = x1) (σ1 := (16, [some (.ref 76), some (.int x1)], [], (iq_sh l, I, J, X))) (fun _ => rfl) hc_ ?_
      refine iq_G_go (k := 2) (σ' := (21, [some (.ref 76), some (.int x1)], [.int (1 : Int32)], (iq_sh l, I, J, X))) (fun _ => rfl) ?_
      cases h
      exact iq_G_ret (fun _ => rfl)
set_option maxRecDepth 100000 in
theorem zM_need_ok (l : Nat)  (x1 : Int32) (I : iq_I) (J : iq_J) (X : iq_X) {q : iq_I × iq_J} (h : zM_need x1 I J = some q) : iq_Cc 3 217 [.ref 76, .int x1] (iq_sh l, I, J, X) (.inl none, (iq_sh l, q.1, q.2, X)) := by
  refine iq_Cc_of (L := [some (.ref 76), some (.int x1)]) rfl rfl ?_
  unfold zM_need at h
  refine iq_G_go (k := 1) (σ' := (1, [some (.ref 76), some (.int x1)], [.ref 76], (iq_sh l, I, J, X))) (fun _ => rfl) ?_
  obtain ⟨q1, hq1, h⟩ := iq_bnd h
  refine iq_G_call (σ' := (4, [some (.ref 76), some (.int x1)], [.int q1], (iq_sh l, I, J, X))) (fun _ => rfl) (zM_isGood_ok l  I J X hq1) rfl rfl ?_
  rcases iq_ite h with ⟨hc_, h⟩ | ⟨hc_, h⟩
  · refine iq_G_pos (c := ¬ q1 = 0) (σ1 := (8, [some (.ref 76), some (.int x1)], [], (iq_sh l, I, J, X))) (fun _ => rfl) hc_ ?_
    refine iq_G_go (k := 1) (σ' := (9, [some (.ref 76), some (.int x1)], [.int x1], (iq_sh l, I, J, X))) (fun _ => rfl) ?_
    rcases iq_ite h with ⟨hc_, h⟩ | ⟨hc_, h⟩
    · refine iq_G_pos (c := x1 = 0) (σ1 := (19, [some (.ref 76), some (.int x1)], [], (iq_sh l, I, J, X))) (fun _ => rfl) hc_ ?_
      refine iq_G_go (k := 2) (σ' := (21, [some (.ref 76), some (.int x1)], [.int (1 : Int32), .ref 76], (iq_sh l, I, J, X))) (fun _ => rfl) ?_
      obtain ⟨q2, hq2, h⟩ := iq_bnd h
      refine iq_G_call (σ' := (24, [some (.ref 76), some (.int x1)], [], (iq_sh l, q2, J, X))) (fun _ => rfl) (zM_wrong_ok l (1 : Int32) I J X hq2) rfl rfl ?_
      cases h
      exact iq_G_ret (fun _ => rfl)
    · refine iq_G_neg (c := x1 = 0) (σ1 := (12, [some (.ref 76), some (.int x1)], [], (iq_sh l, I, J, X))) (fun _ => rfl) hc_ ?_
      refine iq_G_go (k := 1) (σ' := (13, [some (.ref 76), some (.int x1)], [.ref 76], (iq_sh l, I, J, X))) (fun _ => rfl) ?_
      obtain ⟨q3, hq3, h⟩ := iq_bnd h
      refine iq_G_call (σ' := (16, [some (.ref 76), some (.int x1)], [], (iq_sh l, q3.1, q3.2, X))) (fun _ => rfl) (zM_goes_ok l  I J X hq3) rfl rfl ?_
      refine iq_G_go (k := 1) (σ' := (24, [some (.ref 76), some (.int x1)], [], (iq_sh l, q3.1, q3.2, X))) (fun _ => rfl) ?_
      cases h
      exact iq_G_ret (fun _ => rfl)
  · refine iq_G_neg (c := ¬ q1 = 0) (σ1 := (7, [some (.ref 76), some (.int x1)], [], (iq_sh l, I, J, X))) (fun _ => rfl) hc_ ?_
    cases h
    exact iq_G_ret (fun _ => rfl)
set_option maxRecDepth 100000 in
theorem zM_isRowOf_l17_bok (l : Nat)  (x1 : Int32) (I : iq_I) (J : iq_J) (X : iq_X) (x2 : Int32)  {q : (Int32) ⊕ ((Unit) ⊕ (Int32))} (h : zM_isRowOf_l17_b x1 I x2 = some q) (r : iq_R × iq_M) (hc : ∀ v, q = .inl v → iq_Gg 1 233 (17, [some (.ref 76), some (.int x1), some (.int v)], [], (iq_sh l, I, J, X)) r) (hx : ∀ w, q = .inr w → (∀ a, w = .inl a → iq_Gg 1 233 (60, [none, none, none], [], (iq_sh l, I, J, X)) r) ∧ (∀ b, w = .inr b → r = (.inl (some (.int b)), (iq_sh l, I, J, X)))) : iq_Gg 1 233 (17, [some (.ref 76), some (.int x1), some (.int x2)], [], (iq_sh l, I, J, X)) r := by
  unfold zM_isRowOf_l17_b at h
  refine iq_G_go (k := 3) (σ' := (22, [some (.ref 76), some (.int x1), some (.int x2)], [.int (I 76 25), .int x2], (iq_sh l, I, J, X))) (fun _ => rfl) ?_
  rcases iq_ite h with ⟨hc_, h⟩ | ⟨hc_, h⟩
  · refine iq_G_pos (c := (I 76 25) ≤ x2) (σ1 := (60, [some (.ref 76), some (.int x1), some (.int x2)], [], (iq_sh l, I, J, X))) (fun _ => rfl) hc_ ?_
    cases h
    exact iq_G_fg (L := [none, none, none]) trivial ((hx (.inl ()) rfl).1 () rfl)
  · refine iq_G_neg (c := (I 76 25) ≤ x2) (σ1 := (25, [some (.ref 76), some (.int x1), some (.int x2)], [], (iq_sh l, I, J, X))) (fun _ => rfl) hc_ ?_
    refine iq_G_go (k := 7) (σ' := (35, [some (.ref 76), some (.int x1), some (.int x2)], [.int (((9 : Int32) * x1) + x2), .ref 87], (iq_sh l, I, J, X))) (fun _ => rfl) ?_
    obtain ⟨hc_, h⟩ := iq_itn h
    refine iq_G_pos (c := iq_in (((9 : Int32) * x1) + x2) 126) (σ1 := (36, [some (.ref 76), some (.int x1), some (.int x2)], [.int (I 87 (Int32.toNatClampNeg (((9 : Int32) * x1) + x2)))], (iq_sh l, I, J, X))) (fun _ => rfl) hc_ ?_
    refine iq_G_go (k := 5) (σ' := (43, [some (.ref 76), some (.int x1), some (.int x2)], [.int ((I 76 24) + x2), .ref 76, .int (I 87 (Int32.toNatClampNeg (((9 : Int32) * x1) + x2)))], (iq_sh l, I, J, X))) (fun _ => rfl) ?_
    obtain ⟨q1, hq1, h⟩ := iq_bnd h
    refine iq_G_call (σ' := (46, [some (.ref 76), some (.int x1), some (.int x2)], [.int q1, .int (I 87 (Int32.toNatClampNeg (((9 : Int32) * x1) + x2)))], (iq_sh l, I, J, X))) (fun _ => rfl) (zM_byteAt_ok l ((I 76 24) + x2) I J X hq1) rfl rfl ?_
    refine iq_G_go (k := 2) (σ' := (49, [some (.ref 76), some (.int x1), some (.int x2)], [.int (q1 - (96 : Int32)), .int (I 87 (Int32.toNatClampNeg (((9 : Int32) * x1) + x2)))], (iq_sh l, I, J, X))) (fun _ => rfl) ?_
    rcases iq_ite h with ⟨hc_, h⟩ | ⟨hc_, h⟩
    · have st_ : ∀ (z_0 : Int32) (r_ : iq_R × iq_M), (I 87 (Int32.toNatClampNeg (((9 : Int32) * x1) + x2))) = z_0 → iq_Gg 1 233 (54, [some (.ref 76), some (.int x1), some (.int x2)], [], (iq_sh l, I, J, X)) r_ → iq_Gg 1 233 (49, [some (.ref 76), some (.int x1), some (.int x2)], [.int z_0, .int (I 87 (Int32.toNatClampNeg (((9 : Int32) * x1) + x2)))], (iq_sh l, I, J, X)) r_ := fun z_0 r_ hc_ hg_ => iq_G_pos (c := (I 87 (Int32.toNatClampNeg (((9 : Int32) * x1) + x2))) = z_0) (σ1 := (54, [some (.ref 76), some (.int x1), some (.int x2)], [], (iq_sh l, I, J, X))) (fun _ => rfl) hc_ hg_
      refine st_ (q1 - (96 : Int32)) _ hc_ ?_
      clear st_
      refine iq_G_go (k := 2) (σ' := (17, [some (.ref 76), some (.int x1), some (.int (x2 + (1 : Int32)))], [], (iq_sh l, I, J, X))) (fun _ => rfl) ?_
      cases h
      exact iq_G_fg (L := [some (.ref 76), some (.int x1), some (.int (x2 + (1 : Int32)))]) (And.intro rfl (And.intro rfl (And.intro rfl trivial))) (hc (x2 + (1 : Int32)) rfl)
    · have st_ : ∀ (z_0 : Int32) (r_ : iq_R × iq_M), ¬ ((I 87 (Int32.toNatClampNeg (((9 : Int32) * x1) + x2))) = z_0) → iq_Gg 1 233 (52, [some (.ref 76), some (.int x1), some (.int x2)], [], (iq_sh l, I, J, X)) r_ → iq_Gg 1 233 (49, [some (.ref 76), some (.int x1), some (.int x2)], [.int z_0, .int (I 87 (Int32.toNatClampNeg (((9 : Int32) * x1) + x2)))], (iq_sh l, I, J, X)) r_ := fun z_0 r_ hc_ hg_ => iq_G_neg (c := (I 87 (Int32.toNatClampNeg (((9 : Int32) * x1) + x2))) = z_0) (σ1 := (52, [some (.ref 76), some (.int x1), some (.int x2)], [], (iq_sh l, I, J, X))) (fun _ => rfl) hc_ hg_
      refine st_ (q1 - (96 : Int32)) _ hc_ ?_
      clear st_
      refine iq_G_go (k := 1) (σ' := (53, [some (.ref 76), some (.int x1), some (.int x2)], [.int (0 : Int32)], (iq_sh l, I, J, X))) (fun _ => rfl) ?_
      cases h
      obtain rfl := (hx _ rfl).2 _ rfl
      exact iq_G_ret (fun _ => rfl)
set_option maxRecDepth 100000 in
theorem zM_isRowOf_l17_ok (l : Nat)  (x1 : Int32) (I : iq_I) (J : iq_J) (X : iq_X) {n : Nat} {v : Int32} {w : (Unit) ⊕ (Int32)} (h : zM_isRowOf_l17 x1 I n v = some w) (r : iq_R × iq_M) (hq : (∀ a, w = .inl a → iq_Gg 1 233 (60, [none, none, none], [], (iq_sh l, I, J, X)) r) ∧ (∀ b, w = .inr b → r = (.inl (some (.int b)), (iq_sh l, I, J, X)))) : iq_Gg 1 233 (17, [some (.ref 76), some (.int x1), some (.int v)], [], (iq_sh l, I, J, X)) r :=
  iq_lp_ok (σ := fun v => (17, [some (.ref 76), some (.int x1), some (.int v)], [], (iq_sh l, I, J, X))) (Q := fun w r => (∀ a, w = .inl a → iq_Gg 1 233 (60, [none, none, none], [], (iq_sh l, I, J, X)) r) ∧ (∀ b, w = .inr b → r = (.inl (some (.int b)), (iq_sh l, I, J, X)))) (fun v q hv r h1 h2 => zM_isRowOf_l17_bok l x1 I J X v hv r h1 h2) h r hq
set_option maxRecDepth 100000 in
theorem zM_isRowOf_ok (l : Nat)  (x1 : Int32) (I : iq_I) (J : iq_J) (X : iq_X) {q : Int32} (h : zM_isRowOf x1 I = some q) : iq_Cc 2 233 [.ref 76, .int x1] (iq_sh l, I, J, X) (.inl (some (.int q)), (iq_sh l, I, J, X)) := by
  refine iq_Cc_of (L := [some (.ref 76), some (.int x1), none]) rfl rfl ?_
  unfold zM_isRowOf at h
  refine iq_G_go (k := 3) (σ' := (5, [some (.ref 76), some (.int x1), none], [.int x1, .ref 88], (iq_sh l, I, J, X))) (fun _ => rfl) ?_
  obtain ⟨hc_, h⟩ := iq_itn h
  refine iq_G_pos (c := iq_in x1 14) (σ1 := (6, [some (.ref 76), some (.int x1), none], [.int (I 88 (Int32.toNatClampNeg x1))], (iq_sh l, I, J, X))) (fun _ => rfl) hc_ ?_
  refine iq_G_go (k := 2) (σ' := (10, [some (.ref 76), some (.int x1), none], [.int (I 76 25), .int (I 88 (Int32.toNatClampNeg x1))], (iq_sh l, I, J, X))) (fun _ => rfl) ?_
  rcases iq_ite h with ⟨hc_, h⟩ | ⟨hc_, h⟩
  · refine iq_G_pos (c := (I 88 (Int32.toNatClampNeg x1)) = (I 76 25)) (σ1 := (15, [some (.ref 76), some (.int x1), none], [], (iq_sh l, I, J, X))) (fun _ => rfl) hc_ ?_
    refine iq_G_go (k := 2) (σ' := (17, [some (.ref 76), some (.int x1), some (.int (0 : Int32))], [], (iq_sh l, I, J, X))) (fun _ => rfl) ?_
    obtain ⟨w2, hw2, h⟩ := iq_bnd h
    refine iq_G_fg (L := [some (.ref 76), some (.int x1), some (.int (0 : Int32))]) (And.intro rfl (And.intro rfl (And.intro rfl trivial))) ?_
    refine zM_isRowOf_l17_ok l x1 I J X hw2 _ ⟨fun a3 ha => ?_, fun b4 hb => ?_⟩
    · subst ha
      replace h := ir_smL h
      show iq_Gg 1 233 (60, [none, none, none], [], (iq_sh l, I, J, X)) _
      refine iq_G_go (k := 1) (σ' := (61, [none, none, none], [.int (1 : Int32)], (iq_sh l, I, J, X))) (fun _ => rfl) ?_
      cases h
      exact iq_G_ret (fun _ => rfl)
    · subst hb
      replace h := ir_smR h
      cases h
      rfl
  · refine iq_G_neg (c := (I 88 (Int32.toNatClampNeg x1)) = (I 76 25)) (σ1 := (13, [some (.ref 76), some (.int x1), none], [], (iq_sh l, I, J, X))) (fun _ => rfl) hc_ ?_
    refine iq_G_go (k := 1) (σ' := (14, [some (.ref 76), some (.int x1), none], [.int (0 : Int32)], (iq_sh l, I, J, X))) (fun _ => rfl) ?_
    cases h
    exact iq_G_ret (fun _ => rfl)
set_option maxRecDepth 100000 in
theorem zM_numberHere_54_ok (l : Nat)   (I : iq_I) (J : iq_J) (X : iq_X)  {q : Int32 × iq_I} (h : zM_numberHere_54 I = some q)  : iq_Gg 1 218 (54, [some (.ref 76), none, none], [], (iq_sh l, I, J, X)) (.inl (some (.int q.1)), (iq_sh l, q.2, J, X)) := by
  unfold zM_numberHere_54 at h
  refine iq_G_go (k := 1) (σ' := (55, [some (.ref 76), none, none], [.ref 76], (iq_sh l, I, J, X))) (fun _ => rfl) ?_
  obtain ⟨q3, hq3, h⟩ := iq_bnd h
  refine iq_G_call (σ' := (58, [some (.ref 76), none, none], [.int q3], (iq_sh l, I, J, X))) (fun _ => rfl) (zM_isGood_ok l  I J X hq3) rfl rfl ?_
  obtain ⟨hc_, h⟩ := iq_itn h
  have h := Option.some.inj h
  subst h
  exact iq_G_rif (c := q3 = 0 ∨ q3 = 1) (fun _ => rfl) hc_
set_option maxRecDepth 100000 in
theorem zM_numberHere_49_ok (l : Nat)   (I : iq_I) (J : iq_J) (X : iq_X)  {q : Int32 × iq_I} (h : zM_numberHere_49 I = some q)  : iq_Gg 1 218 (49, [some (.ref 76), none, none], [], (iq_sh l, I, J, X)) (.inl (some (.int q.1)), (iq_sh l, q.2, J, X)) := by
  unfold zM_numberHere_49 at h
  refine iq_G_go (k := 2) (σ' := (51, [some (.ref 76), none, none], [.int (2 : Int32), .ref 76], (iq_sh l, I, J, X))) (fun _ => rfl) ?_
  obtain ⟨q2, hq2, h⟩ := iq_bnd h
  refine iq_G_call (σ' := (54, [some (.ref 76), none, none], [], (iq_sh l, q2, J, X))) (fun _ => rfl) (zM_wrong_ok l (2 : Int32) I J X hq2) rfl rfl ?_
  exact iq_G_fg (L := [some (.ref 76), none, none]) (And.intro rfl trivial) (zM_numberHere_54_ok l q2 J X  h )
set_option maxRecDepth 100000 in
theorem zM_numberHere_ok (l : Nat)  (x1 : Int32) (x2 : Int32) (I : iq_I) (J : iq_J) (X : iq_X) {q : Int32 × iq_I} (h : zM_numberHere x1 x2 I = some q) : iq_Cc 2 218 [.ref 76, .int x1, .int x2] (iq_sh l, I, J, X) (.inl (some (.int q.1)), (iq_sh l, q.2, J, X)) := by
  refine iq_Cc_of (L := [some (.ref 76), some (.int x1), some (.int x2)]) rfl rfl ?_
  unfold zM_numberHere at h
  refine iq_G_go (k := 1) (σ' := (1, [some (.ref 76), some (.int x1), some (.int x2)], [.ref 76], (iq_sh l, I, J, X))) (fun _ => rfl) ?_
  obtain ⟨q1, hq1, h⟩ := iq_bnd h
  refine iq_G_call (σ' := (4, [some (.ref 76), some (.int x1), some (.int x2)], [.int q1], (iq_sh l, I, J, X))) (fun _ => rfl) (zM_isGood_ok l  I J X hq1) rfl rfl ?_
  rcases iq_ite h with ⟨hc_, h⟩ | ⟨hc_, h⟩
  · refine iq_G_pos (c := ¬ q1 = 0) (σ1 := (9, [some (.ref 76), some (.int x1), some (.int x2)], [], (iq_sh l, I, J, X))) (fun _ => rfl) hc_ ?_
    refine iq_G_go (k := 3) (σ' := (14, [some (.ref 76), some (.int x1), some (.int x2)], [.int (2 : Int32), .int (I 76 23)], (iq_sh l, I, J, X))) (fun _ => rfl) ?_
    rcases iq_ite h with ⟨hc_, h⟩ | ⟨hc_, h⟩
    · refine iq_G_pos (c := (I 76 23) = (2 : Int32)) (σ1 := (25, [some (.ref 76), some (.int x1), some (.int x2)], [], (iq_sh l, I, J, X))) (fun _ => rfl) hc_ ?_
      refine iq_G_go (k := 3) (σ' := (30, [some (.ref 76), some (.int x1), some (.int x2)], [.int (4 : Int32), .int (I 76 25)], (iq_sh l, I, J, X))) (fun _ => rfl) ?_
      rcases iq_ite h with ⟨hc_, h⟩ | ⟨hc_, h⟩
      · refine iq_G_pos (c := (4 : Int32) < (I 76 25)) (σ1 := (49, [some (.ref 76), some (.int x1), some (.int x2)], [], (iq_sh l, I, J, X))) (fun _ => rfl) hc_ ?_
        exact iq_G_fg (L := [some (.ref 76), none, none]) (And.intro rfl trivial) (zM_numberHere_49_ok l I J X  h )
      · refine iq_G_neg (c := (4 : Int32) < (I 76 25)) (σ1 := (33, [some (.ref 76), some (.int x1), some (.int x2)], [], (iq_sh l, I, J, X))) (fun _ => rfl) hc_ ?_
        refine iq_G_go (k := 3) (σ' := (38, [some (.ref 76), some (.int x1), some (.int x2)], [.int x1, .int (I 76 26)], (iq_sh l, I, J, X))) (fun _ => rfl) ?_
        rcases iq_ite h with ⟨hc_, h⟩ | ⟨hc_, h⟩
        · refine iq_G_pos (c := (I 76 26) < x1) (σ1 := (49, [some (.ref 76), some (.int x1), some (.int x2)], [], (iq_sh l, I, J, X))) (fun _ => rfl) hc_ ?_
          exact iq_G_fg (L := [some (.ref 76), none, none]) (And.intro rfl trivial) (zM_numberHere_49_ok l I J X  h )
        · refine iq_G_neg (c := (I 76 26) < x1) (σ1 := (41, [some (.ref 76), some (.int x1), some (.int x2)], [], (iq_sh l, I, J, X))) (fun _ => rfl) hc_ ?_
          refine iq_G_go (k := 3) (σ' := (46, [some (.ref 76), some (.int x1), some (.int x2)], [.int x2, .int (I 76 26)], (iq_sh l, I, J, X))) (fun _ => rfl) ?_
          rcases iq_ite h with ⟨hc_, h⟩ | ⟨hc_, h⟩
          · refine iq_G_pos (c := (I 76 26) ≤ x2) (σ1 := (54, [some (.ref 76), some (.int x1), some (.int x2)], [], (iq_sh l, I, J, X))) (fun _ => rfl) hc_ ?_
            exact iq_G_fg (L := [some (.ref 76), none, none]) (And.intro rfl trivial) (zM_numberHere_54_ok l I J X  h )
          · refine iq_G_neg (c := (I 76 26) ≤ x2) (σ1 := (49, [some (.ref 76), some (.int x1), some (.int x2)], [], (iq_sh l, I, J, X))) (fun _ => rfl) hc_ ?_
            exact iq_G_fg (L := [some (.ref 76), none, none]) (And.intro rfl trivial) (zM_numberHere_49_ok l I J X  h )
    · refine iq_G_neg (c := (I 76 23) = (2 : Int32)) (σ1 := (17, [some (.ref 76), some (.int x1), some (.int x2)], [], (iq_sh l, I, J, X))) (fun _ => rfl) hc_ ?_
      refine iq_G_go (k := 2) (σ' := (19, [some (.ref 76), some (.int x1), some (.int x2)], [.int (1 : Int32), .ref 76], (iq_sh l, I, J, X))) (fun _ => rfl) ?_
      obtain ⟨q4, hq4, h⟩ := iq_bnd h
      refine iq_G_call (σ' := (22, [some (.ref 76), some (.int x1), some (.int x2)], [], (iq_sh l, q4, J, X))) (fun _ => rfl) (zM_wrong_ok l (1 : Int32) I J X hq4) rfl rfl ?_
      refine iq_G_go (k := 1) (σ' := (54, [some (.ref 76), some (.int x1), some (.int x2)], [], (iq_sh l, q4, J, X))) (fun _ => rfl) ?_
      exact iq_G_fg (L := [some (.ref 76), none, none]) (And.intro rfl trivial) (zM_numberHere_54_ok l q4 J X  h )
  · refine iq_G_neg (c := ¬ q1 = 0) (σ1 := (7, [some (.ref 76), some (.int x1), some (.int x2)], [], (iq_sh l, I, J, X))) (fun _ => rfl) hc_ ?_
    refine iq_G_go (k := 1) (σ' := (8, [some (.ref 76), some (.int x1), some (.int x2)], [.int (0 : Int32)], (iq_sh l, I, J, X))) (fun _ => rfl) ?_
    cases h
    exact iq_G_ret (fun _ => rfl)
set_option maxRecDepth 100000 in
theorem zM_number_17_ok (l : Nat)  (s0 : Int32) (I : iq_I) (J : iq_J) (X : iq_X)  {q : Int32 × iq_I × iq_J} (h : zM_number_17 s0 I J = some q)  : iq_Gg 2 219 (17, [some (.ref 76), none, none, none], [.int s0], (iq_sh l, I, J, X)) (.inl (some (.int q.1)), (iq_sh l, q.2.1, q.2.2, X)) := by
  unfold zM_number_17 at h
  refine iq_G_go (k := 2) (σ' := (19, [some (.ref 76), none, none, some (.int s0)], [.ref 76], (iq_sh l, I, J, X))) (fun _ => rfl) ?_
  obtain ⟨q2, hq2, h⟩ := iq_bnd h
  refine iq_G_call (σ' := (22, [some (.ref 76), none, none, some (.int s0)], [.int q2], (iq_sh l, I, J, X))) (fun _ => rfl) (zM_isGood_ok l  I J X hq2) rfl rfl ?_
  rcases iq_ite h with ⟨hc_, h⟩ | ⟨hc_, h⟩
  · refine iq_G_pos (c := q2 = 0) (σ1 := (29, [some (.ref 76), none, none, some (.int s0)], [], (iq_sh l, I, J, X))) (fun _ => rfl) hc_ ?_
    refine iq_G_go (k := 1) (σ' := (30, [some (.ref 76), none, none, some (.int s0)], [.int s0], (iq_sh l, I, J, X))) (fun _ => rfl) ?_
    cases h
    exact iq_G_ret (fun _ => rfl)
  · refine iq_G_neg (c := q2 = 0) (σ1 := (25, [some (.ref 76), none, none, some (.int s0)], [], (iq_sh l, I, J, X))) (fun _ => rfl) hc_ ?_
    refine iq_G_go (k := 1) (σ' := (26, [some (.ref 76), none, none, some (.int s0)], [.ref 76], (iq_sh l, I, J, X))) (fun _ => rfl) ?_
    obtain ⟨q3, hq3, h⟩ := iq_bnd h
    refine iq_G_call (σ' := (29, [some (.ref 76), none, none, some (.int s0)], [], (iq_sh l, q3.1, q3.2, X))) (fun _ => rfl) (zM_goes_ok l  I J X hq3) rfl rfl ?_
    refine iq_G_go (k := 1) (σ' := (30, [some (.ref 76), none, none, some (.int s0)], [.int s0], (iq_sh l, q3.1, q3.2, X))) (fun _ => rfl) ?_
    cases h
    exact iq_G_ret (fun _ => rfl)
set_option maxRecDepth 100000 in
theorem zM_number_ok (l : Nat)  (x1 : Int32) (x2 : Int32) (I : iq_I) (J : iq_J) (X : iq_X) {q : Int32 × iq_I × iq_J} (h : zM_number x1 x2 I J = some q) : iq_Cc 3 219 [.ref 76, .int x1, .int x2] (iq_sh l, I, J, X) (.inl (some (.int q.1)), (iq_sh l, q.2.1, q.2.2, X)) := by
  refine iq_Cc_of (L := [some (.ref 76), some (.int x1), some (.int x2), none]) rfl rfl ?_
  unfold zM_number at h
  refine iq_G_go (k := 3) (σ' := (3, [some (.ref 76), some (.int x1), some (.int x2), none], [.int x2, .int x1, .ref 76], (iq_sh l, I, J, X))) (fun _ => rfl) ?_
  obtain ⟨q1, hq1, h⟩ := iq_bnd h
  refine iq_G_call (σ' := (6, [some (.ref 76), some (.int x1), some (.int x2), none], [.int q1.1], (iq_sh l, q1.2, J, X))) (fun _ => rfl) (zM_numberHere_ok l x1 x2 I J X hq1) rfl rfl ?_
  rcases iq_ite h with ⟨hc_, h⟩ | ⟨hc_, h⟩
  · refine iq_G_pos (c := q1.1 = 0) (σ1 := (16, [some (.ref 76), some (.int x1), some (.int x2), none], [], (iq_sh l, q1.2, J, X))) (fun _ => rfl) hc_ ?_
    refine iq_G_go (k := 1) (σ' := (17, [some (.ref 76), some (.int x1), some (.int x2), none], [.int (0 : Int32)], (iq_sh l, q1.2, J, X))) (fun _ => rfl) ?_
    exact iq_G_fg (L := [some (.ref 76), none, none, none]) (And.intro rfl trivial) (zM_number_17_ok l (0 : Int32) q1.2 J X  h )
  · refine iq_G_neg (c := q1.1 = 0) (σ1 := (9, [some (.ref 76), some (.int x1), some (.int x2), none], [], (iq_sh l, q1.2, J, X))) (fun _ => rfl) hc_ ?_
    refine iq_G_go (k := 3) (σ' := (17, [some (.ref 76), some (.int x1), some (.int x2), none], [.int (q1.2 76 26)], (iq_sh l, q1.2, J, X))) (fun _ => rfl) ?_
    exact iq_G_fg (L := [some (.ref 76), none, none, none]) (And.intro rfl trivial) (zM_number_17_ok l (q1.2 76 26) q1.2 J X  h )
set_option maxRecDepth 100000 in
theorem zM_readsWord_l63_bok (l : Nat)  (x1 : Int32) (J : iq_J) (X : iq_X) (x2 : Int32) (I : iq_I) {q : (Int32 × iq_I) ⊕ (iq_I)} (h : zM_readsWord_l63_b x1 J x2 I = some q) (r : iq_R × iq_M) (hc : ∀ v, q = .inl v → iq_Gg 3 234 (63, [some (.ref 76), some (.int x1), some (.int v.1)], [], (iq_sh l, v.2, J, X)) r) (hx : ∀ w, q = .inr w → iq_Gg 3 234 (94, [some (.ref 76), some (.int x1), none], [], (iq_sh l, w, J, X)) r) : iq_Gg 3 234 (63, [some (.ref 76), some (.int x1), some (.int x2)], [], (iq_sh l, I, J, X)) r := by
  unfold zM_readsWord_l63_b at h
  refine iq_G_go (k := 2) (σ' := (65, [some (.ref 76), some (.int x1), some (.int x2)], [.int x1, .int x2], (iq_sh l, I, J, X))) (fun _ => rfl) ?_
  rcases iq_ite h with ⟨hc_, h⟩ | ⟨hc_, h⟩
  · refine iq_G_pos (c := x1 ≤ x2) (σ1 := (94, [some (.ref 76), some (.int x1), some (.int x2)], [], (iq_sh l, I, J, X))) (fun _ => rfl) hc_ ?_
    cases h
    exact iq_G_fg (L := [some (.ref 76), some (.int x1), none]) (And.intro rfl (And.intro rfl trivial)) (hx I rfl)
  · refine iq_G_neg (c := x1 ≤ x2) (σ1 := (68, [some (.ref 76), some (.int x1), some (.int x2)], [], (iq_sh l, I, J, X))) (fun _ => rfl) hc_ ?_
    refine iq_G_go (k := 1) (σ' := (69, [some (.ref 76), some (.int x1), some (.int x2)], [.ref 76], (iq_sh l, I, J, X))) (fun _ => rfl) ?_
    obtain ⟨q3, hq3, h⟩ := iq_bnd h
    refine iq_G_call (σ' := (72, [some (.ref 76), some (.int x1), some (.int x2)], [.int q3], (iq_sh l, I, J, X))) (fun _ => rfl) (zM_isGood_ok l  I J X hq3) rfl rfl ?_
    rcases iq_ite h with ⟨hc_, h⟩ | ⟨hc_, h⟩
    · refine iq_G_pos (c := q3 = 0) (σ1 := (94, [some (.ref 76), some (.int x1), some (.int x2)], [], (iq_sh l, I, J, X))) (fun _ => rfl) hc_ ?_
      cases h
      exact iq_G_fg (L := [some (.ref 76), some (.int x1), none]) (And.intro rfl (And.intro rfl trivial)) (hx I rfl)
    · refine iq_G_neg (c := q3 = 0) (σ1 := (75, [some (.ref 76), some (.int x1), some (.int x2)], [], (iq_sh l, I, J, X))) (fun _ => rfl) hc_ ?_
      refine iq_G_go (k := 2) (σ' := (77, [some (.ref 76), some (.int x1), some (.int x2)], [.int x2, .ref 76], (iq_sh l, I, J, X))) (fun _ => rfl) ?_
      obtain ⟨q4, hq4, h⟩ := iq_bnd h
      refine iq_G_call (σ' := (80, [some (.ref 76), some (.int x1), some (.int x2)], [.int q4], (iq_sh l, I, J, X))) (fun _ => rfl) (zM_isRowOf_ok l x2 I J X hq4) rfl rfl ?_
      rcases iq_ite h with ⟨hc_, h⟩ | ⟨hc_, h⟩
      · refine iq_G_pos (c := q4 = 0) (σ1 := (88, [some (.ref 76), some (.int x1), some (.int x2)], [], (iq_sh l, I, J, X))) (fun _ => rfl) hc_ ?_
        refine iq_G_go (k := 2) (σ' := (63, [some (.ref 76), some (.int x1), some (.int (x2 + (1 : Int32)))], [], (iq_sh l, I, J, X))) (fun _ => rfl) ?_
        cases h
        exact iq_G_fg (L := [some (.ref 76), some (.int x1), some (.int (x2 + (1 : Int32)))]) (And.intro rfl (And.intro rfl (And.intro rfl trivial))) (hc ((x2 + (1 : Int32)), I) rfl)
      · refine iq_G_neg (c := q4 = 0) (σ1 := (83, [some (.ref 76), some (.int x1), some (.int x2)], [], (iq_sh l, I, J, X))) (fun _ => rfl) hc_ ?_
        refine iq_G_go (k := 2) (σ' := (85, [some (.ref 76), some (.int x1), some (.int x2)], [.int (4 : Int32), .ref 76], (iq_sh l, I, J, X))) (fun _ => rfl) ?_
        obtain ⟨q5, hq5, h⟩ := iq_bnd h
        refine iq_G_call (σ' := (88, [some (.ref 76), some (.int x1), some (.int x2)], [], (iq_sh l, q5, J, X))) (fun _ => rfl) (zM_wrong_ok l (4 : Int32) I J X hq5) rfl rfl ?_
        refine iq_G_go (k := 2) (σ' := (63, [some (.ref 76), some (.int x1), some (.int (x2 + (1 : Int32)))], [], (iq_sh l, q5, J, X))) (fun _ => rfl) ?_
        cases h
        exact iq_G_fg (L := [some (.ref 76), some (.int x1), some (.int (x2 + (1 : Int32)))]) (And.intro rfl (And.intro rfl (And.intro rfl trivial))) (hc ((x2 + (1 : Int32)), q5) rfl)
set_option maxRecDepth 100000 in
theorem zM_readsWord_l63_ok (l : Nat)  (x1 : Int32) (J : iq_J) (X : iq_X) {n : Nat} {v : Int32 × iq_I} {w : iq_I} (h : zM_readsWord_l63 x1 J n v = some w) (r : iq_R × iq_M) (hq : iq_Gg 3 234 (94, [some (.ref 76), some (.int x1), none], [], (iq_sh l, w, J, X)) r) : iq_Gg 3 234 (63, [some (.ref 76), some (.int x1), some (.int v.1)], [], (iq_sh l, v.2, J, X)) r :=
  iq_lp_ok (σ := fun v => (63, [some (.ref 76), some (.int x1), some (.int v.1)], [], (iq_sh l, v.2, J, X))) (Q := fun w r => iq_Gg 3 234 (94, [some (.ref 76), some (.int x1), none], [], (iq_sh l, w, J, X)) r) (fun v q hv r h1 h2 => zM_readsWord_l63_bok l x1 J X v.1 v.2 hv r h1 h2) h r hq
set_option maxRecDepth 100000 in
theorem zM_readsWord_l114_bok (l : Nat)  (x1 : Int32) (J : iq_J) (X : iq_X) (x2 : Int32) (I : iq_I) {q : (Int32 × iq_I) ⊕ (iq_I)} (h : zM_readsWord_l114_b x1 J x2 I = some q) (r : iq_R × iq_M) (hc : ∀ v, q = .inl v → iq_Gg 3 234 (114, [some (.ref 76), some (.int x1), some (.int v.1)], [], (iq_sh l, v.2, J, X)) r) (hx : ∀ w, q = .inr w → iq_Gg 3 234 (152, [some (.ref 76), some (.int x1), none], [], (iq_sh l, w, J, X)) r) : iq_Gg 3 234 (114, [some (.ref 76), some (.int x1), some (.int x2)], [], (iq_sh l, I, J, X)) r := by
  unfold zM_readsWord_l114_b at h
  refine iq_G_go (k := 3) (σ' := (119, [some (.ref 76), some (.int x1), some (.int x2)], [.int (I 76 25), .int x2], (iq_sh l, I, J, X))) (fun _ => rfl) ?_
  rcases iq_ite h with ⟨hc_, h⟩ | ⟨hc_, h⟩
  · refine iq_G_pos (c := (I 76 25) ≤ x2) (σ1 := (152, [some (.ref 76), some (.int x1), some (.int x2)], [], (iq_sh l, I, J, X))) (fun _ => rfl) hc_ ?_
    cases h
    exact iq_G_fg (L := [some (.ref 76), some (.int x1), none]) (And.intro rfl (And.intro rfl trivial)) (hx I rfl)
  · refine iq_G_neg (c := (I 76 25) ≤ x2) (σ1 := (122, [some (.ref 76), some (.int x1), some (.int x2)], [], (iq_sh l, I, J, X))) (fun _ => rfl) hc_ ?_
    refine iq_G_go (k := 12) (σ' := (139, [some (.ref 76), some (.int x1), some (.int x2)], [.int ((I 76 24) + x2), .ref 76, .int (((9 : Int32) * x1) + x2), .ref 87], (iq_sh l, I, J, X))) (fun _ => rfl) ?_
    obtain ⟨q9, hq9, h⟩ := iq_bnd h
    refine iq_G_call (σ' := (142, [some (.ref 76), some (.int x1), some (.int x2)], [.int q9, .int (((9 : Int32) * x1) + x2), .ref 87], (iq_sh l, I, J, X))) (fun _ => rfl) (zM_byteAt_ok l ((I 76 24) + x2) I J X hq9) rfl rfl ?_
    refine iq_G_go (k := 2) (σ' := (145, [some (.ref 76), some (.int x1), some (.int x2)], [.int (q9 - (96 : Int32)), .int (((9 : Int32) * x1) + x2), .ref 87], (iq_sh l, I, J, X))) (fun _ => rfl) ?_
    obtain ⟨hc_, h⟩ := iq_itn h
    refine iq_G_pos (c := iq_in (((9 : Int32) * x1) + x2) 126) (σ1 := (146, [some (.ref 76), some (.int x1), some (.int x2)], [], (iq_sh l, (iq_upI I 87 (Int32.toNatClampNeg (((9 : Int32) * x1) + x2)) (q9 - (96 : Int32))), J, X))) (fun _ => rfl) hc_ ?_
    obtain ⟨I10, eI10, h⟩ := ir_letG h
    rw [← eI10]
    clear eI10
    refine iq_G_go (k := 2) (σ' := (114, [some (.ref 76), some (.int x1), some (.int (x2 + (1 : Int32)))], [], (iq_sh l, I10, J, X))) (fun _ => rfl) ?_
    cases h
    exact iq_G_fg (L := [some (.ref 76), some (.int x1), some (.int (x2 + (1 : Int32)))]) (And.intro rfl (And.intro rfl (And.intro rfl trivial))) (hc ((x2 + (1 : Int32)), I10) rfl)
set_option maxRecDepth 100000 in
theorem zM_readsWord_l114_ok (l : Nat)  (x1 : Int32) (J : iq_J) (X : iq_X) {n : Nat} {v : Int32 × iq_I} {w : iq_I} (h : zM_readsWord_l114 x1 J n v = some w) (r : iq_R × iq_M) (hq : iq_Gg 3 234 (152, [some (.ref 76), some (.int x1), none], [], (iq_sh l, w, J, X)) r) : iq_Gg 3 234 (114, [some (.ref 76), some (.int x1), some (.int v.1)], [], (iq_sh l, v.2, J, X)) r :=
  iq_lp_ok (σ := fun v => (114, [some (.ref 76), some (.int x1), some (.int v.1)], [], (iq_sh l, v.2, J, X))) (Q := fun w r => iq_Gg 3 234 (152, [some (.ref 76), some (.int x1), none], [], (iq_sh l, w, J, X)) r) (fun v q hv r h1 h2 => zM_readsWord_l114_bok l x1 J X v.1 v.2 hv r h1 h2) h r hq
set_option maxRecDepth 100000 in
theorem zM_readsWord_94_ok (l : Nat)  (x1 : Int32) (I : iq_I) (J : iq_J) (X : iq_X)  {q : iq_I × iq_J} (h : zM_readsWord_94 x1 I J = some q)  : iq_Gg 3 234 (94, [some (.ref 76), some (.int x1), none], [], (iq_sh l, I, J, X)) (.inl none, (iq_sh l, q.1, q.2, X)) := by
  unfold zM_readsWord_94 at h
  refine iq_G_go (k := 1) (σ' := (95, [some (.ref 76), some (.int x1), none], [.ref 76], (iq_sh l, I, J, X))) (fun _ => rfl) ?_
  obtain ⟨q7, hq7, h⟩ := iq_bnd h
  refine iq_G_call (σ' := (98, [some (.ref 76), some (.int x1), none], [.int q7], (iq_sh l, I, J, X))) (fun _ => rfl) (zM_isGood_ok l  I J X hq7) rfl rfl ?_
  rcases iq_ite h with ⟨hc_, h⟩ | ⟨hc_, h⟩
  · refine iq_G_pos (c := ¬ q7 = 0) (σ1 := (102, [some (.ref 76), some (.int x1), none], [], (iq_sh l, I, J, X))) (fun _ => rfl) hc_ ?_
    refine iq_G_go (k := 5) (σ' := (111, [some (.ref 76), some (.int x1), none], [.int (I 76 25), .int x1, .ref 88], (iq_sh l, I, J, X))) (fun _ => rfl) ?_
    obtain ⟨hc_, h⟩ := iq_itn h
    refine iq_G_pos (c := iq_in x1 14) (σ1 := (112, [some (.ref 76), some (.int x1), none], [], (iq_sh l, (iq_upI I 88 (Int32.toNatClampNeg x1) (I 76 25)), J, X))) (fun _ => rfl) hc_ ?_
    obtain ⟨I8, eI8, h⟩ := ir_letG h
    rw [← eI8]
    clear eI8
    refine iq_G_go (k := 2) (σ' := (114, [some (.ref 76), some (.int x1), some (.int (0 : Int32))], [], (iq_sh l, I8, J, X))) (fun _ => rfl) ?_
    obtain ⟨w11, hw11, h⟩ := iq_bnd h
    refine iq_G_fg (L := [some (.ref 76), some (.int x1), some (.int (0 : Int32))]) (And.intro rfl (And.intro rfl (And.intro rfl trivial))) ?_
    refine zM_readsWord_l114_ok l x1 J X hw11 _ ?_
    show iq_Gg 3 234 (152, [some (.ref 76), some (.int x1), none], [], (iq_sh l, w11, J, X)) _
    refine iq_G_go (k := 1) (σ' := (153, [some (.ref 76), some (.int x1), none], [.ref 76], (iq_sh l, w11, J, X))) (fun _ => rfl) ?_
    obtain ⟨q12, hq12, h⟩ := iq_bnd h
    refine iq_G_call (σ' := (156, [some (.ref 76), some (.int x1), none], [], (iq_sh l, q12.1, q12.2, X))) (fun _ => rfl) (zM_goes_ok l  w11 J X hq12) rfl rfl ?_
    refine iq_G_go (k := 6) (σ' := (165, [some (.ref 76), some (.int x1), none], [.int (7 : Int32), .int (0 : Int32), .ref 76, .int x1, .ref 89], (iq_sh l, q12.1, q12.2, X))) (fun _ => rfl) ?_
    obtain ⟨q13, hq13, h⟩ := iq_bnd h
    refine iq_G_call (σ' := (168, [some (.ref 76), some (.int x1), none], [.int q13.1, .int x1, .ref 89], (iq_sh l, q13.2.1, q13.2.2, X))) (fun _ => rfl) (zM_number_ok l (0 : Int32) (7 : Int32) q12.1 q12.2 X hq13) rfl rfl ?_
    obtain ⟨hc_, h⟩ := iq_itn h
    refine iq_G_pos (c := iq_in x1 14) (σ1 := (169, [some (.ref 76), some (.int x1), none], [], (iq_sh l, (iq_upI q13.2.1 89 (Int32.toNatClampNeg x1) q13.1), q13.2.2, X))) (fun _ => rfl) hc_ ?_
    obtain ⟨I14, eI14, h⟩ := ir_letG h
    rw [← eI14]
    clear eI14
    refine iq_G_go (k := 1) (σ' := (170, [some (.ref 76), some (.int x1), none], [.ref 76], (iq_sh l, I14, q13.2.2, X))) (fun _ => rfl) ?_
    obtain ⟨q15, hq15, h⟩ := iq_bnd h
    refine iq_G_call (σ' := (173, [some (.ref 76), some (.int x1), none], [.int q15], (iq_sh l, I14, q13.2.2, X))) (fun _ => rfl) (zM_isGood_ok l  I14 q13.2.2 X hq15) rfl rfl ?_
    rcases iq_ite h with ⟨hc_, h⟩ | ⟨hc_, h⟩
    · refine iq_G_pos (c := q15 = 0) (σ1 := (186, [some (.ref 76), some (.int x1), none], [], (iq_sh l, I14, q13.2.2, X))) (fun _ => rfl) hc_ ?_
      cases h
      exact iq_G_ret (fun _ => rfl)
    · refine iq_G_neg (c := q15 = 0) (σ1 := (176, [some (.ref 76), some (.int x1), none], [], (iq_sh l, I14, q13.2.2, X))) (fun _ => rfl) hc_ ?_
      refine iq_G_go (k := 5) (σ' := (183, [some (.ref 76), some (.int x1), none], [.int ((I14 76 30) + (1 : Int32)), .ref 76], (iq_sh l, I14, q13.2.2, X))) (fun _ => rfl) ?_
      refine iq_G_go (k := 1) (σ' := (186, [some (.ref 76), some (.int x1), none], [], (iq_sh l, (iq_upI I14 76 30 ((I14 76 30) + (1 : Int32))), q13.2.2, X))) (fun _ => rfl) ?_
      obtain ⟨I16, eI16, h⟩ := ir_letG h
      rw [← eI16]
      clear eI16
      cases h
      exact iq_G_ret (fun _ => rfl)
  · refine iq_G_neg (c := ¬ q7 = 0) (σ1 := (101, [some (.ref 76), some (.int x1), none], [], (iq_sh l, I, J, X))) (fun _ => rfl) hc_ ?_
    cases h
    exact iq_G_ret (fun _ => rfl)
set_option maxRecDepth 100000 in
theorem zM_readsWord_61_ok (l : Nat)  (x1 : Int32) (I : iq_I) (J : iq_J) (X : iq_X)  {q : iq_I × iq_J} (h : zM_readsWord_61 x1 I J = some q)  : iq_Gg 3 234 (61, [some (.ref 76), some (.int x1), none], [], (iq_sh l, I, J, X)) (.inl none, (iq_sh l, q.1, q.2, X)) := by
  unfold zM_readsWord_61 at h
  refine iq_G_go (k := 2) (σ' := (63, [some (.ref 76), some (.int x1), some (.int (0 : Int32))], [], (iq_sh l, I, J, X))) (fun _ => rfl) ?_
  obtain ⟨w6, hw6, h⟩ := iq_bnd h
  refine iq_G_fg (L := [some (.ref 76), some (.int x1), some (.int (0 : Int32))]) (And.intro rfl (And.intro rfl (And.intro rfl trivial))) ?_
  refine zM_readsWord_l63_ok l x1 J X hw6 _ ?_
  show iq_Gg 3 234 (94, [some (.ref 76), some (.int x1), none], [], (iq_sh l, w6, J, X)) _
  exact iq_G_fg (L := [some (.ref 76), some (.int x1), none]) (And.intro rfl (And.intro rfl trivial)) (zM_readsWord_94_ok l x1 w6 J X  h )
set_option maxRecDepth 100000 in
theorem zM_readsWord_14_ok (l : Nat)   (I : iq_I) (J : iq_J) (X : iq_X)  {q : iq_I × iq_J} (h : zM_readsWord_14 I J = some q)  : iq_Gg 3 234 (14, [some (.ref 76), none, none], [], (iq_sh l, I, J, X)) (.inl none, (iq_sh l, q.1, q.2, X)) := by
  unfold zM_readsWord_14 at h
  refine iq_G_go (k := 1) (σ' := (15, [some (.ref 76), none, none], [.ref 76], (iq_sh l, I, J, X))) (fun _ => rfl) ?_
  obtain ⟨q1, hq1, h⟩ := iq_bnd h
  refine iq_G_call (σ' := (18, [some (.ref 76), none, none], [.int q1], (iq_sh l, I, J, X))) (fun _ => rfl) (zM_isGood_ok l  I J X hq1) rfl rfl ?_
  rcases iq_ite h with ⟨hc_, h⟩ | ⟨hc_, h⟩
  · refine iq_G_pos (c := ¬ q1 = 0) (σ1 := (22, [some (.ref 76), none, none], [], (iq_sh l, I, J, X))) (fun _ => rfl) hc_ ?_
    refine iq_G_go (k := 1) (σ' := (23, [some (.ref 76), none, none], [.ref 76], (iq_sh l, I, J, X))) (fun _ => rfl) ?_
    obtain ⟨q2, hq2, h⟩ := iq_bnd h
    refine iq_G_call (σ' := (26, [some (.ref 76), none, none], [], (iq_sh l, q2.1, q2.2, X))) (fun _ => rfl) (zM_goes_ok l  I J X hq2) rfl rfl ?_
    refine iq_G_go (k := 6) (σ' := (36, [some (.ref 76), some (.int (q2.1 76 30)), none], [.int (1 : Int32), .int (q2.1 76 23)], (iq_sh l, q2.1, q2.2, X))) (fun _ => rfl) ?_
    rcases iq_ite h with ⟨hc_, h⟩ | ⟨hc_, h⟩
    · refine iq_G_pos (c := (q2.1 76 23) = (1 : Int32)) (σ1 := (47, [some (.ref 76), some (.int (q2.1 76 30)), none], [], (iq_sh l, q2.1, q2.2, X))) (fun _ => rfl) hc_ ?_
      refine iq_G_go (k := 3) (σ' := (53, [some (.ref 76), some (.int (q2.1 76 30)), none], [.int (9 : Int32), .int (q2.1 76 25)], (iq_sh l, q2.1, q2.2, X))) (fun _ => rfl) ?_
      rcases iq_ite h with ⟨hc_, h⟩ | ⟨hc_, h⟩
      · refine iq_G_pos (c := (q2.1 76 25) ≤ (9 : Int32)) (σ1 := (61, [some (.ref 76), some (.int (q2.1 76 30)), none], [], (iq_sh l, q2.1, q2.2, X))) (fun _ => rfl) hc_ ?_
        exact iq_G_fg (L := [some (.ref 76), some (.int (q2.1 76 30)), none]) (And.intro rfl (And.intro rfl trivial)) (zM_readsWord_61_ok l (q2.1 76 30) q2.1 q2.2 X  h )
      · refine iq_G_neg (c := (q2.1 76 25) ≤ (9 : Int32)) (σ1 := (56, [some (.ref 76), some (.int (q2.1 76 30)), none], [], (iq_sh l, q2.1, q2.2, X))) (fun _ => rfl) hc_ ?_
        refine iq_G_go (k := 2) (σ' := (58, [some (.ref 76), some (.int (q2.1 76 30)), none], [.int (2 : Int32), .ref 76], (iq_sh l, q2.1, q2.2, X))) (fun _ => rfl) ?_
        obtain ⟨q17, hq17, h⟩ := iq_bnd h
        refine iq_G_call (σ' := (61, [some (.ref 76), some (.int (q2.1 76 30)), none], [], (iq_sh l, q17, q2.2, X))) (fun _ => rfl) (zM_wrong_ok l (2 : Int32) q2.1 q2.2 X hq17) rfl rfl ?_
        exact iq_G_fg (L := [some (.ref 76), some (.int (q2.1 76 30)), none]) (And.intro rfl (And.intro rfl trivial)) (zM_readsWord_61_ok l (q2.1 76 30) q17 q2.2 X  h )
    · refine iq_G_neg (c := (q2.1 76 23) = (1 : Int32)) (σ1 := (39, [some (.ref 76), some (.int (q2.1 76 30)), none], [], (iq_sh l, q2.1, q2.2, X))) (fun _ => rfl) hc_ ?_
      refine iq_G_go (k := 2) (σ' := (41, [some (.ref 76), some (.int (q2.1 76 30)), none], [.int (1 : Int32), .ref 76], (iq_sh l, q2.1, q2.2, X))) (fun _ => rfl) ?_
      obtain ⟨q18, hq18, h⟩ := iq_bnd h
      refine iq_G_call (σ' := (44, [some (.ref 76), some (.int (q2.1 76 30)), none], [], (iq_sh l, q18, q2.2, X))) (fun _ => rfl) (zM_wrong_ok l (1 : Int32) q2.1 q2.2 X hq18) rfl rfl ?_
      refine iq_G_go (k := 1) (σ' := (61, [some (.ref 76), some (.int (q2.1 76 30)), none], [], (iq_sh l, q18, q2.2, X))) (fun _ => rfl) ?_
      exact iq_G_fg (L := [some (.ref 76), some (.int (q2.1 76 30)), none]) (And.intro rfl (And.intro rfl trivial)) (zM_readsWord_61_ok l (q2.1 76 30) q18 q2.2 X  h )
  · refine iq_G_neg (c := ¬ q1 = 0) (σ1 := (21, [some (.ref 76), none, none], [], (iq_sh l, I, J, X))) (fun _ => rfl) hc_ ?_
    cases h
    exact iq_G_ret (fun _ => rfl)
set_option maxRecDepth 100000 in
theorem zM_readsWord_ok (l : Nat)   (I : iq_I) (J : iq_J) (X : iq_X) {q : iq_I × iq_J} (h : zM_readsWord I J = some q) : iq_Cc 4 234 [.ref 76] (iq_sh l, I, J, X) (.inl none, (iq_sh l, q.1, q.2, X)) := by
  refine iq_Cc_of (L := [some (.ref 76), none, none]) rfl rfl ?_
  unfold zM_readsWord at h
  refine iq_G_go (k := 3) (σ' := (6, [some (.ref 76), none, none], [.int (14 : Int32), .int (I 76 30)], (iq_sh l, I, J, X))) (fun _ => rfl) ?_
  rcases iq_ite h with ⟨hc_, h⟩ | ⟨hc_, h⟩
  · refine iq_G_pos (c := ¬ (I 76 30) = (14 : Int32)) (σ1 := (14, [some (.ref 76), none, none], [], (iq_sh l, I, J, X))) (fun _ => rfl) hc_ ?_
    exact iq_G_fg (L := [some (.ref 76), none, none]) (And.intro rfl trivial) (zM_readsWord_14_ok l I J X  h )
  · refine iq_G_neg (c := ¬ (I 76 30) = (14 : Int32)) (σ1 := (9, [some (.ref 76), none, none], [], (iq_sh l, I, J, X))) (fun _ => rfl) hc_ ?_
    refine iq_G_go (k := 2) (σ' := (11, [some (.ref 76), none, none], [.int (2 : Int32), .ref 76], (iq_sh l, I, J, X))) (fun _ => rfl) ?_
    obtain ⟨q19, hq19, h⟩ := iq_bnd h
    refine iq_G_call (σ' := (14, [some (.ref 76), none, none], [], (iq_sh l, q19, J, X))) (fun _ => rfl) (zM_wrong_ok l (2 : Int32) I J X hq19) rfl rfl ?_
    exact iq_G_fg (L := [some (.ref 76), none, none]) (And.intro rfl trivial) (zM_readsWord_14_ok l q19 J X  h )
set_option maxRecDepth 100000 in
theorem zM_oneHere_54_ok (l : Nat)   (I : iq_I) (J : iq_J) (X : iq_X)  {q : Int32 × iq_I} (h : zM_oneHere_54 I = some q)  : iq_Gg 1 220 (54, [some (.ref 76), none], [], (iq_sh l, I, J, X)) (.inl (some (.int q.1)), (iq_sh l, q.2, J, X)) := by
  unfold zM_oneHere_54 at h
  refine iq_G_go (k := 1) (σ' := (55, [some (.ref 76), none], [.ref 76], (iq_sh l, I, J, X))) (fun _ => rfl) ?_
  obtain ⟨q2, hq2, h⟩ := iq_bnd h
  refine iq_G_call (σ' := (58, [some (.ref 76), none], [.int q2], (iq_sh l, I, J, X))) (fun _ => rfl) (zM_isGood_ok l  I J X hq2) rfl rfl ?_
  rcases iq_ite h with ⟨hc_, h⟩ | ⟨hc_, h⟩
  · refine iq_G_pos (c := q2 = 0) (σ1 := (68, [some (.ref 76), none], [], (iq_sh l, I, J, X))) (fun _ => rfl) hc_ ?_
    refine iq_G_go (k := 1) (σ' := (69, [some (.ref 76), none], [.int (0 : Int32)], (iq_sh l, I, J, X))) (fun _ => rfl) ?_
    cases h
    exact iq_G_ret (fun _ => rfl)
  · refine iq_G_neg (c := q2 = 0) (σ1 := (61, [some (.ref 76), none], [], (iq_sh l, I, J, X))) (fun _ => rfl) hc_ ?_
    refine iq_G_go (k := 3) (σ' := (69, [some (.ref 76), none], [.int (I 76 26)], (iq_sh l, I, J, X))) (fun _ => rfl) ?_
    cases h
    exact iq_G_ret (fun _ => rfl)
set_option maxRecDepth 100000 in
theorem zM_oneHere_ok (l : Nat)  (x1 : Int32) (I : iq_I) (J : iq_J) (X : iq_X) {q : Int32 × iq_I} (h : zM_oneHere x1 I = some q) : iq_Cc 2 220 [.ref 76, .int x1] (iq_sh l, I, J, X) (.inl (some (.int q.1)), (iq_sh l, q.2, J, X)) := by
  refine iq_Cc_of (L := [some (.ref 76), some (.int x1)]) rfl rfl ?_
  unfold zM_oneHere at h
  refine iq_G_go (k := 1) (σ' := (1, [some (.ref 76), some (.int x1)], [.ref 76], (iq_sh l, I, J, X))) (fun _ => rfl) ?_
  obtain ⟨q1, hq1, h⟩ := iq_bnd h
  refine iq_G_call (σ' := (4, [some (.ref 76), some (.int x1)], [.int q1], (iq_sh l, I, J, X))) (fun _ => rfl) (zM_isGood_ok l  I J X hq1) rfl rfl ?_
  rcases iq_ite h with ⟨hc_, h⟩ | ⟨hc_, h⟩
  · refine iq_G_pos (c := ¬ q1 = 0) (σ1 := (9, [some (.ref 76), some (.int x1)], [], (iq_sh l, I, J, X))) (fun _ => rfl) hc_ ?_
    refine iq_G_go (k := 3) (σ' := (14, [some (.ref 76), some (.int x1)], [.int (2 : Int32), .int (I 76 23)], (iq_sh l, I, J, X))) (fun _ => rfl) ?_
    rcases iq_ite h with ⟨hc_, h⟩ | ⟨hc_, h⟩
    · refine iq_G_pos (c := (I 76 23) = (2 : Int32)) (σ1 := (25, [some (.ref 76), some (.int x1)], [], (iq_sh l, I, J, X))) (fun _ => rfl) hc_ ?_
      refine iq_G_go (k := 3) (σ' := (30, [some (.ref 76), some (.int x1)], [.int (4 : Int32), .int (I 76 25)], (iq_sh l, I, J, X))) (fun _ => rfl) ?_
      rcases iq_ite h with ⟨hc_, h⟩ | ⟨hc_, h⟩
      · refine iq_G_pos (c := (I 76 25) ≤ (4 : Int32)) (σ1 := (41, [some (.ref 76), some (.int x1)], [], (iq_sh l, I, J, X))) (fun _ => rfl) hc_ ?_
        refine iq_G_go (k := 3) (σ' := (46, [some (.ref 76), some (.int x1)], [.int x1, .int (I 76 26)], (iq_sh l, I, J, X))) (fun _ => rfl) ?_
        rcases iq_ite h with ⟨hc_, h⟩ | ⟨hc_, h⟩
        · refine iq_G_pos (c := (I 76 26) < x1) (σ1 := (54, [some (.ref 76), some (.int x1)], [], (iq_sh l, I, J, X))) (fun _ => rfl) hc_ ?_
          exact iq_G_fg (L := [some (.ref 76), none]) (And.intro rfl trivial) (zM_oneHere_54_ok l I J X  h )
        · refine iq_G_neg (c := (I 76 26) < x1) (σ1 := (49, [some (.ref 76), some (.int x1)], [], (iq_sh l, I, J, X))) (fun _ => rfl) hc_ ?_
          refine iq_G_go (k := 2) (σ' := (51, [some (.ref 76), some (.int x1)], [.int (3 : Int32), .ref 76], (iq_sh l, I, J, X))) (fun _ => rfl) ?_
          obtain ⟨q3, hq3, h⟩ := iq_bnd h
          refine iq_G_call (σ' := (54, [some (.ref 76), some (.int x1)], [], (iq_sh l, q3, J, X))) (fun _ => rfl) (zM_wrong_ok l (3 : Int32) I J X hq3) rfl rfl ?_
          exact iq_G_fg (L := [some (.ref 76), none]) (And.intro rfl trivial) (zM_oneHere_54_ok l q3 J X  h )
      · refine iq_G_neg (c := (I 76 25) ≤ (4 : Int32)) (σ1 := (33, [some (.ref 76), some (.int x1)], [], (iq_sh l, I, J, X))) (fun _ => rfl) hc_ ?_
        refine iq_G_go (k := 2) (σ' := (35, [some (.ref 76), some (.int x1)], [.int (2 : Int32), .ref 76], (iq_sh l, I, J, X))) (fun _ => rfl) ?_
        obtain ⟨q4, hq4, h⟩ := iq_bnd h
        refine iq_G_call (σ' := (38, [some (.ref 76), some (.int x1)], [], (iq_sh l, q4, J, X))) (fun _ => rfl) (zM_wrong_ok l (2 : Int32) I J X hq4) rfl rfl ?_
        refine iq_G_go (k := 1) (σ' := (54, [some (.ref 76), some (.int x1)], [], (iq_sh l, q4, J, X))) (fun _ => rfl) ?_
        exact iq_G_fg (L := [some (.ref 76), none]) (And.intro rfl trivial) (zM_oneHere_54_ok l q4 J X  h )
    · refine iq_G_neg (c := (I 76 23) = (2 : Int32)) (σ1 := (17, [some (.ref 76), some (.int x1)], [], (iq_sh l, I, J, X))) (fun _ => rfl) hc_ ?_
      refine iq_G_go (k := 2) (σ' := (19, [some (.ref 76), some (.int x1)], [.int (1 : Int32), .ref 76], (iq_sh l, I, J, X))) (fun _ => rfl) ?_
      obtain ⟨q5, hq5, h⟩ := iq_bnd h
      refine iq_G_call (σ' := (22, [some (.ref 76), some (.int x1)], [], (iq_sh l, q5, J, X))) (fun _ => rfl) (zM_wrong_ok l (1 : Int32) I J X hq5) rfl rfl ?_
      refine iq_G_go (k := 1) (σ' := (54, [some (.ref 76), some (.int x1)], [], (iq_sh l, q5, J, X))) (fun _ => rfl) ?_
      exact iq_G_fg (L := [some (.ref 76), none]) (And.intro rfl trivial) (zM_oneHere_54_ok l q5 J X  h )
  · refine iq_G_neg (c := ¬ q1 = 0) (σ1 := (7, [some (.ref 76), some (.int x1)], [], (iq_sh l, I, J, X))) (fun _ => rfl) hc_ ?_
    refine iq_G_go (k := 1) (σ' := (8, [some (.ref 76), some (.int x1)], [.int (0 : Int32)], (iq_sh l, I, J, X))) (fun _ => rfl) ?_
    cases h
    exact iq_G_ret (fun _ => rfl)
set_option maxRecDepth 100000 in
theorem zM_one_ok (l : Nat)  (x1 : Int32) (I : iq_I) (J : iq_J) (X : iq_X) {q : Int32 × iq_I × iq_J} (h : zM_one x1 I J = some q) : iq_Cc 3 221 [.ref 76, .int x1] (iq_sh l, I, J, X) (.inl (some (.int q.1)), (iq_sh l, q.2.1, q.2.2, X)) := by
  refine iq_Cc_of (L := [some (.ref 76), some (.int x1), none]) rfl rfl ?_
  unfold zM_one at h
  refine iq_G_go (k := 2) (σ' := (2, [some (.ref 76), some (.int x1), none], [.int x1, .ref 76], (iq_sh l, I, J, X))) (fun _ => rfl) ?_
  obtain ⟨q1, hq1, h⟩ := iq_bnd h
  refine iq_G_call (σ' := (5, [some (.ref 76), some (.int x1), none], [.int q1.1], (iq_sh l, q1.2, J, X))) (fun _ => rfl) (zM_oneHere_ok l x1 I J X hq1) rfl rfl ?_
  refine iq_G_go (k := 2) (σ' := (7, [some (.ref 76), some (.int x1), some (.int q1.1)], [.ref 76], (iq_sh l, q1.2, J, X))) (fun _ => rfl) ?_
  obtain ⟨q2, hq2, h⟩ := iq_bnd h
  refine iq_G_call (σ' := (10, [some (.ref 76), some (.int x1), some (.int q1.1)], [.int q2], (iq_sh l, q1.2, J, X))) (fun _ => rfl) (zM_isGood_ok l  q1.2 J X hq2) rfl rfl ?_
  rcases iq_ite h with ⟨hc_, h⟩ | ⟨hc_, h⟩
  · refine iq_G_pos (c := q2 = 0) (σ1 := (17, [some (.ref 76), some (.int x1), some (.int q1.1)], [], (iq_sh l, q1.2, J, X))) (fun _ => rfl) hc_ ?_
    refine iq_G_go (k := 1) (σ' := (18, [some (.ref 76), some (.int x1), some (.int q1.1)], [.int q1.1], (iq_sh l, q1.2, J, X))) (fun _ => rfl) ?_
    cases h
    exact iq_G_ret (fun _ => rfl)
  · refine iq_G_neg (c := q2 = 0) (σ1 := (13, [some (.ref 76), some (.int x1), some (.int q1.1)], [], (iq_sh l, q1.2, J, X))) (fun _ => rfl) hc_ ?_
    refine iq_G_go (k := 1) (σ' := (14, [some (.ref 76), some (.int x1), some (.int q1.1)], [.ref 76], (iq_sh l, q1.2, J, X))) (fun _ => rfl) ?_
    obtain ⟨q3, hq3, h⟩ := iq_bnd h
    refine iq_G_call (σ' := (17, [some (.ref 76), some (.int x1), some (.int q1.1)], [], (iq_sh l, q3.1, q3.2, X))) (fun _ => rfl) (zM_goes_ok l  q1.2 J X hq3) rfl rfl ?_
    refine iq_G_go (k := 1) (σ' := (18, [some (.ref 76), some (.int x1), some (.int q1.1)], [.int q1.1], (iq_sh l, q3.1, q3.2, X))) (fun _ => rfl) ?_
    cases h
    exact iq_G_ret (fun _ => rfl)

