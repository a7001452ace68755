/-! ===== the abstract machine does the same (printed by wip/whole/emitall.py, split.py) ===== -/
set_option maxRecDepth 100000 in
theorem zA_copyFrom_19_30_ok (l : Nat)   (I : iq_I) (J : iq_J) (X : iq_X) {q : iq_I} (h : zA_copyFrom_19_30 I = some q) : iq_Cc 1 3 [.ref 19, .ref 30] (iq_sh l, I, J, X) (.inl none, (iq_sh l, q, J, X)) := by
  refine iq_Cc_of (L := [some (.ref 19), some (.ref 30)]) rfl rfl ?_
  unfold zA_copyFrom_19_30 at h
  refine iq_G_go (k := 3) (σ' := (5, [some (.ref 19), some (.ref 30)], [.int (I 30 0), .ref 19], (iq_sh l, I, J, X))) (fun _ => rfl) ?_
  refine iq_G_go (k := 1) (σ' := (8, [some (.ref 19), some (.ref 30)], [], (iq_sh l, (iq_upI I 19 0 (I 30 0)), J, X))) (fun _ => rfl) ?_
  obtain ⟨I1, eI1, h⟩ := ir_letG h
  rw [← eI1]
  clear eI1
  refine iq_G_go (k := 7) (σ' := (20, [some (.ref 19), some (.ref 30)], [.int (40 : Int32), .int (0 : Int32), .ref 20, .int (0 : Int32), .ref 31], (iq_sh l, I1, J, X))) (fun _ => rfl) ?_
  refine iq_G_go (k := 1) (σ' := (23, [some (.ref 19), some (.ref 30)], [], (iq_sh l, (iq_cpI I1 31 20 0 0 40), J, X))) (fun _ => rfl) ?_
  obtain ⟨I2, eI2, h⟩ := ir_letG h
  rw [← eI2]
  clear eI2
  refine iq_G_go (k := 7) (σ' := (35, [some (.ref 19), some (.ref 30)], [.int (40 : Int32), .int (0 : Int32), .ref 21, .int (0 : Int32), .ref 32], (iq_sh l, I2, J, X))) (fun _ => rfl) ?_
  refine iq_G_go (k := 1) (σ' := (38, [some (.ref 19), some (.ref 30)], [], (iq_sh l, (iq_cpI I2 32 21 0 0 40), J, X))) (fun _ => rfl) ?_
  obtain ⟨I3, eI3, h⟩ := ir_letG h
  rw [← eI3]
  clear eI3
  refine iq_G_go (k := 7) (σ' := (50, [some (.ref 19), some (.ref 30)], [.int (40 : Int32), .int (0 : Int32), .ref 22, .int (0 : Int32), .ref 33], (iq_sh l, I3, J, X))) (fun _ => rfl) ?_
  refine iq_G_go (k := 1) (σ' := (53, [some (.ref 19), some (.ref 30)], [], (iq_sh l, (iq_cpI I3 33 22 0 0 40), J, X))) (fun _ => rfl) ?_
  obtain ⟨I4, eI4, h⟩ := ir_letG h
  rw [← eI4]
  clear eI4
  refine iq_G_go (k := 7) (σ' := (65, [some (.ref 19), some (.ref 30)], [.int (40 : Int32), .int (0 : Int32), .ref 23, .int (0 : Int32), .ref 34], (iq_sh l, I4, J, X))) (fun _ => rfl) ?_
  refine iq_G_go (k := 1) (σ' := (68, [some (.ref 19), some (.ref 30)], [], (iq_sh l, (iq_cpI I4 34 23 0 0 40), J, X))) (fun _ => rfl) ?_
  obtain ⟨I5, eI5, h⟩ := ir_letG h
  rw [← eI5]
  clear eI5
  cases h
  exact iq_G_ret (fun _ => rfl)
set_option maxRecDepth 100000 in
theorem zG_copyFrom_16_27_ok (l : Nat)   (I : iq_I) (J : iq_J) (X : iq_X) {q : iq_I} (h : zG_copyFrom_16_27 I = some q) : iq_Cc 2 6 [.ref 16, .ref 27] (iq_sh l, I, J, X) (.inl none, (iq_sh l, q, J, X)) := by
  refine iq_Cc_of (L := [some (.ref 16), some (.ref 27)]) rfl rfl ?_
  unfold zG_copyFrom_16_27 at h
  refine iq_G_go (k := 3) (σ' := (5, [some (.ref 16), some (.ref 27)], [.int (I 27 0), .ref 16], (iq_sh l, I, J, X))) (fun _ => rfl) ?_
  refine iq_G_go (k := 1) (σ' := (8, [some (.ref 16), some (.ref 27)], [], (iq_sh l, (iq_upI I 16 0 (I 27 0)), J, X))) (fun _ => rfl) ?_
  obtain ⟨I1, eI1, h⟩ := ir_letG h
  rw [← eI1]
  clear eI1
  refine iq_G_go (k := 3) (σ' := (13, [some (.ref 16), some (.ref 27)], [.int (I1 27 1), .ref 16], (iq_sh l, I1, J, X))) (fun _ => rfl) ?_
  refine iq_G_go (k := 1) (σ' := (16, [some (.ref 16), some (.ref 27)], [], (iq_sh l, (iq_upI I1 16 1 (I1 27 1)), J, X))) (fun _ => rfl) ?_
  obtain ⟨I2, eI2, h⟩ := ir_letG h
  rw [← eI2]
  clear eI2
  refine iq_G_go (k := 3) (σ' := (21, [some (.ref 16), some (.ref 27)], [.int (I2 27 2), .ref 16], (iq_sh l, I2, J, X))) (fun _ => rfl) ?_
  refine iq_G_go (k := 1) (σ' := (24, [some (.ref 16), some (.ref 27)], [], (iq_sh l, (iq_upI I2 16 2 (I2 27 2)), J, X))) (fun _ => rfl) ?_
  obtain ⟨I3, eI3, h⟩ := ir_letG h
  rw [← eI3]
  clear eI3
  refine iq_G_go (k := 7) (σ' := (35, [some (.ref 16), some (.ref 27)], [.int (5 : Int32), .int (0 : Int32), .ref 17, .int (0 : Int32), .ref 28], (iq_sh l, I3, J, X))) (fun _ => rfl) ?_
  refine iq_G_go (k := 1) (σ' := (38, [some (.ref 16), some (.ref 27)], [], (iq_sh l, (iq_cpI I3 28 17 0 0 5), J, X))) (fun _ => rfl) ?_
  obtain ⟨I4, eI4, h⟩ := ir_letG h
  rw [← eI4]
  clear eI4
  refine iq_G_go (k := 7) (σ' := (49, [some (.ref 16), some (.ref 27)], [.int (5 : Int32), .int (0 : Int32), .ref 18, .int (0 : Int32), .ref 29], (iq_sh l, I4, J, X))) (fun _ => rfl) ?_
  refine iq_G_go (k := 1) (σ' := (52, [some (.ref 16), some (.ref 27)], [], (iq_sh l, (iq_cpI I4 29 18 0 0 5), J, X))) (fun _ => rfl) ?_
  obtain ⟨I5, eI5, h⟩ := ir_letG h
  rw [← eI5]
  clear eI5
  refine iq_G_go (k := 9) (σ' := (67, [some (.ref 16), some (.ref 27)], [.int (200 : Int32), .int (0 : Int32), .ref 24, .int (0 : Int32), .ref 35], (iq_sh l, I5, J, X))) (fun _ => rfl) ?_
  refine iq_G_go (k := 1) (σ' := (70, [some (.ref 16), some (.ref 27)], [], (iq_sh l, (iq_cpI I5 35 24 0 0 200), J, X))) (fun _ => rfl) ?_
  obtain ⟨I6, eI6, h⟩ := ir_letG h
  rw [← eI6]
  clear eI6
  refine iq_G_go (k := 7) (σ' := (81, [some (.ref 16), some (.ref 27)], [.int (3 : Int32), .int (0 : Int32), .ref 25, .int (0 : Int32), .ref 36], (iq_sh l, I6, J, X))) (fun _ => rfl) ?_
  refine iq_G_go (k := 1) (σ' := (84, [some (.ref 16), some (.ref 27)], [], (iq_sh l, (iq_cpI I6 36 25 0 0 3), J, X))) (fun _ => rfl) ?_
  obtain ⟨I7, eI7, h⟩ := ir_letG h
  rw [← eI7]
  clear eI7
  refine iq_G_go (k := 7) (σ' := (95, [some (.ref 16), some (.ref 27)], [.int (3 : Int32), .int (0 : Int32), .ref 26, .int (0 : Int32), .ref 37], (iq_sh l, I7, J, X))) (fun _ => rfl) ?_
  refine iq_G_go (k := 1) (σ' := (98, [some (.ref 16), some (.ref 27)], [], (iq_sh l, (iq_cpI I7 37 26 0 0 3), J, X))) (fun _ => rfl) ?_
  obtain ⟨I8, eI8, h⟩ := ir_letG h
  rw [← eI8]
  clear eI8
  refine iq_G_go (k := 4) (σ' := (106, [some (.ref 16), some (.ref 27)], [.ref 30, .ref 19], (iq_sh l, I8, J, X))) (fun _ => rfl) ?_
  obtain ⟨q9, hq9, h⟩ := iq_bnd h
  refine iq_G_call (σ' := (109, [some (.ref 16), some (.ref 27)], [], (iq_sh l, q9, J, X))) (fun _ => rfl) (zA_copyFrom_19_30_ok l  I8 J X hq9) rfl rfl ?_
  cases h
  exact iq_G_ret (fun _ => rfl)
set_option maxRecDepth 100000 in
theorem zO_restore_ok (l : Nat)   (I : iq_I) (J : iq_J) (X : iq_X) {q : Int32 × iq_I} (h : zO_restore I = some q) : iq_Cc 3 189 [.ref 1] (iq_sh l, I, J, X) (.inl (some (.int q.1)), (iq_sh l, q.2, J, X)) := by
  refine iq_Cc_of (L := [some (.ref 1)]) rfl rfl ?_
  unfold zO_restore at h
  refine iq_G_go (k := 2) (σ' := (4, [some (.ref 1)], [.int (I 1 13)], (iq_sh l, I, J, X))) (fun _ => rfl) ?_
  rcases iq_ite h with ⟨hc_, h⟩ | ⟨hc_, h⟩
  · refine iq_G_pos (c := ¬ (I 1 13) = 0) (σ1 := (9, [some (.ref 1)], [], (iq_sh l, I, J, X))) (fun _ => rfl) hc_ ?_
    refine iq_G_go (k := 4) (σ' := (17, [some (.ref 1)], [.ref 27, .ref 16], (iq_sh l, I, J, X))) (fun _ => rfl) ?_
    obtain ⟨q1, hq1, h⟩ := iq_bnd h
    refine iq_G_call (σ' := (20, [some (.ref 1)], [], (iq_sh l, q1, J, X))) (fun _ => rfl) (zG_copyFrom_16_27_ok l  I J X hq1) rfl rfl ?_
    refine iq_G_go (k := 1) (σ' := (21, [some (.ref 1)], [.int (1 : Int32)], (iq_sh l, q1, J, X))) (fun _ => rfl) ?_
    cases h
    exact iq_G_ret (fun _ => rfl)
  · refine iq_G_neg (c := ¬ (I 1 13) = 0) (σ1 := (7, [some (.ref 1)], [], (iq_sh l, I, J, X))) (fun _ => rfl) hc_ ?_
    refine iq_G_go (k := 1) (σ' := (8, [some (.ref 1)], [.int (0 : Int32)], (iq_sh l, I, J, X))) (fun _ => rfl) ?_
    cases h
    exact iq_G_ret (fun _ => rfl)
set_option maxRecDepth 100000 in
theorem zM_copies_76_111_98_l2_bok (l : Nat)   (J : iq_J) (X : iq_X) (x3 : Int32) (I : iq_I) {q : (Int32 × iq_I) ⊕ (iq_I)} (h : zM_copies_76_111_98_l2_b  x3 I = some q) (r : iq_R × iq_M) (hc : ∀ v, q = .inl v → iq_Gg 0 203 (2, [none, some (.ref 111), some (.ref 98), some (.int v.1)], [], (iq_sh l, v.2, J, X)) r) (hx : ∀ w, q = .inr w → iq_Gg 0 203 (20, [none, none, none, none], [], (iq_sh l, w, J, X)) r) : iq_Gg 0 203 (2, [none, some (.ref 111), some (.ref 98), some (.int x3)], [], (iq_sh l, I, J, X)) r := by
  unfold zM_copies_76_111_98_l2_b at h
  refine iq_G_go (k := 3) (σ' := (5, [none, some (.ref 111), some (.ref 98), some (.int x3)], [.int (206 : Int32), .int x3], (iq_sh l, I, J, X))) (fun _ => rfl) ?_
  rcases iq_ite h with ⟨hc_, h⟩ | ⟨hc_, h⟩
  · refine iq_G_pos (c := (206 : Int32) ≤ x3) (σ1 := (20, [none, some (.ref 111), some (.ref 98), some (.int x3)], [], (iq_sh l, I, J, X))) (fun _ => rfl) hc_ ?_
    cases h
    exact iq_G_fg (L := [none, none, none, none]) trivial (hx I rfl)
  · refine iq_G_neg (c := (206 : Int32) ≤ x3) (σ1 := (8, [none, some (.ref 111), some (.ref 98), some (.int x3)], [], (iq_sh l, I, J, X))) (fun _ => rfl) hc_ ?_
    refine iq_G_go (k := 4) (σ' := (12, [none, some (.ref 111), some (.ref 98), some (.int x3)], [.int x3, .ref 111, .int x3, .ref 98], (iq_sh l, I, J, X))) (fun _ => rfl) ?_
    obtain ⟨hc_, h⟩ := iq_itn h
    refine iq_G_pos (c := iq_in x3 206) (σ1 := (13, [none, some (.ref 111), some (.ref 98), some (.int x3)], [.int (I 111 (Int32.toNatClampNeg x3)), .int x3, .ref 98], (iq_sh l, I, J, X))) (fun _ => rfl) hc_ ?_
    obtain ⟨hc_, h⟩ := iq_itn h
    refine iq_G_pos (c := iq_in x3 206) (σ1 := (14, [none, some (.ref 111), some (.ref 98), some (.int x3)], [], (iq_sh l, (iq_upI I 98 (Int32.toNatClampNeg x3) (I 111 (Int32.toNatClampNeg x3))), J, X))) (fun _ => rfl) hc_ ?_
    obtain ⟨I1, eI1, h⟩ := ir_letG h
    rw [← eI1]
    clear eI1
    refine iq_G_go (k := 2) (σ' := (2, [none, some (.ref 111), some (.ref 98), some (.int (x3 + (1 : Int32)))], [], (iq_sh l, I1, J, X))) (fun _ => rfl) ?_
    cases h
    exact iq_G_fg (L := [none, some (.ref 111), some (.ref 98), some (.int (x3 + (1 : Int32)))]) (And.intro rfl (And.intro rfl (And.intro rfl trivial))) (hc ((x3 + (1 : Int32)), I1) rfl)
set_option maxRecDepth 100000 in
theorem zM_copies_76_111_98_l2_ok (l : Nat)   (J : iq_J) (X : iq_X) {n : Nat} {v : Int32 × iq_I} {w : iq_I} (h : zM_copies_76_111_98_l2  n v = some w) (r : iq_R × iq_M) (hq : iq_Gg 0 203 (20, [none, none, none, none], [], (iq_sh l, w, J, X)) r) : iq_Gg 0 203 (2, [none, some (.ref 111), some (.ref 98), some (.int v.1)], [], (iq_sh l, v.2, J, X)) r :=
  iq_lp_ok (σ := fun v => (2, [none, some (.ref 111), some (.ref 98), some (.int v.1)], [], (iq_sh l, v.2, J, X))) (Q := fun w r => iq_Gg 0 203 (20, [none, none, none, none], [], (iq_sh l, w, J, X)) r) (fun v q hv r h1 h2 => zM_copies_76_111_98_l2_bok l J X v.1 v.2 hv r h1 h2) h r hq
set_option maxRecDepth 100000 in
theorem zM_copies_76_111_98_ok (l : Nat)   (I : iq_I) (J : iq_J) (X : iq_X) {q : iq_I} (h : zM_copies_76_111_98 I = some q) : iq_Cc 1 203 [.ref 76, .ref 111, .ref 98] (iq_sh l, I, J, X) (.inl none, (iq_sh l, q, J, X)) := by
  refine iq_Cc_of (L := [some (.ref 76), some (.ref 111), some (.ref 98), none]) rfl rfl ?_
  unfold zM_copies_76_111_98 at h
  refine iq_G_go (k := 2) (σ' := (2, [some (.ref 76), some (.ref 111), some (.ref 98), some (.int (0 : Int32))], [], (iq_sh l, I, J, X))) (fun _ => rfl) ?_
  obtain ⟨w2, hw2, h⟩ := iq_bnd h
  refine iq_G_fg (L := [none, some (.ref 111), some (.ref 98), some (.int (0 : Int32))]) (And.intro rfl (And.intro rfl (And.intro rfl trivial))) ?_
  refine zM_copies_76_111_98_l2_ok l J X hw2 _ ?_
  show iq_Gg 0 203 (20, [none, none, none, none], [], (iq_sh l, w2, J, X)) _
  cases h
  exact iq_G_ret (fun _ => rfl)
set_option maxRecDepth 100000 in
theorem zM_copies_76_112_100_l2_bok (l : Nat)   (J : iq_J) (X : iq_X) (x3 : Int32) (I : iq_I) {q : (Int32 × iq_I) ⊕ (iq_I)} (h : zM_copies_76_112_100_l2_b  x3 I = some q) (r : iq_R × iq_M) (hc : ∀ v, q = .inl v → iq_Gg 0 203 (2, [none, some (.ref 112), some (.ref 100), some (.int v.1)], [], (iq_sh l, v.2, J, X)) r) (hx : ∀ w, q = .inr w → iq_Gg 0 203 (20, [none, none, none, none], [], (iq_sh l, w, J, X)) r) : iq_Gg 0 203 (2, [none, some (.ref 112), some (.ref 100), some (.int x3)], [], (iq_sh l, I, J, X)) r := by
  unfold zM_copies_76_112_100_l2_b at h
  refine iq_G_go (k := 3) (σ' := (5, [none, some (.ref 112), some (.ref 100), some (.int x3)], [.int (8240 : Int32), .int x3], (iq_sh l, I, J, X))) (fun _ => rfl) ?_
  rcases iq_ite h with ⟨hc_, h⟩ | ⟨hc_, h⟩
  · refine iq_G_pos (c := (8240 : Int32) ≤ x3) (σ1 := (20, [none, some (.ref 112), some (.ref 100), some (.int x3)], [], (iq_sh l, I, J, X))) (fun _ => rfl) hc_ ?_
    cases h
    exact iq_G_fg (L := [none, none, none, none]) trivial (hx I rfl)
  · refine iq_G_neg (c := (8240 : Int32) ≤ x3) (σ1 := (8, [none, some (.ref 112), some (.ref 100), some (.int x3)], [], (iq_sh l, I, J, X))) (fun _ => rfl) hc_ ?_
    refine iq_G_go (k := 4) (σ' := (12, [none, some (.ref 112), some (.ref 100), some (.int x3)], [.int x3, .ref 112, .int x3, .ref 100], (iq_sh l, I, J, X))) (fun _ => rfl) ?_
    obtain ⟨hc_, h⟩ := iq_itn h
    refine iq_G_pos (c := iq_in x3 8240) (σ1 := (13, [none, some (.ref 112), some (.ref 100), some (.int x3)], [.int (I 112 (Int32.toNatClampNeg x3)), .int x3, .ref 100], (iq_sh l, I, J, X))) (fun _ => rfl) hc_ ?_
    obtain ⟨hc_, h⟩ := iq_itn h
    refine iq_G_pos (c := iq_in x3 8240) (σ1 := (14, [none, some (.ref 112), some (.ref 100), some (.int x3)], [], (iq_sh l, (iq_upI I 100 (Int32.toNatClampNeg x3) (I 112 (Int32.toNatClampNeg x3))), J, X))) (fun _ => rfl) hc_ ?_
    obtain ⟨I1, eI1, h⟩ := ir_letG h
    rw [← eI1]
    clear eI1
    refine iq_G_go (k := 2) (σ' := (2, [none, some (.ref 112), some (.ref 100), some (.int (x3 + (1 : Int32)))], [], (iq_sh l, I1, J, X))) (fun _ => rfl) ?_
    cases h
    exact iq_G_fg (L := [none, some (.ref 112), some (.ref 100), some (.int (x3 + (1 : Int32)))]) (And.intro rfl (And.intro rfl (And.intro rfl trivial))) (hc ((x3 + (1 : Int32)), I1) rfl)
set_option maxRecDepth 100000 in
theorem zM_copies_76_112_100_l2_ok (l : Nat)   (J : iq_J) (X : iq_X) {n : Nat} {v : Int32 × iq_I} {w : iq_I} (h : zM_copies_76_112_100_l2  n v = some w) (r : iq_R × iq_M) (hq : iq_Gg 0 203 (20, [none, none, none, none], [], (iq_sh l, w, J, X)) r) : iq_Gg 0 203 (2, [none, some (.ref 112), some (.ref 100), some (.int v.1)], [], (iq_sh l, v.2, J, X)) r :=
  iq_lp_ok (σ := fun v => (2, [none, some (.ref 112), some (.ref 100), some (.int v.1)], [], (iq_sh l, v.2, J, X))) (Q := fun w r => iq_Gg 0 203 (20, [none, none, none, none], [], (iq_sh l, w, J, X)) r) (fun v q hv r h1 h2 => zM_copies_76_112_100_l2_bok l J X v.1 v.2 hv r h1 h2) h r hq
set_option maxRecDepth 100000 in
theorem zM_copies_76_112_100_ok (l : Nat)   (I : iq_I) (J : iq_J) (X : iq_X) {q : iq_I} (h : zM_copies_76_112_100 I = some q) : iq_Cc 1 203 [.ref 76, .ref 112, .ref 100] (iq_sh l, I, J, X) (.inl none, (iq_sh l, q, J, X)) := by
  refine iq_Cc_of (L := [some (.ref 76), some (.ref 112), some (.ref 100), none]) rfl rfl ?_
  unfold zM_copies_76_112_100 at h
  refine iq_G_go (k := 2) (σ' := (2, [some (.ref 76), some (.ref 112), some (.ref 100), some (.int (0 : Int32))], [], (iq_sh l, I, J, X))) (fun _ => rfl) ?_
  obtain ⟨w2, hw2, h⟩ := iq_bnd h
  refine iq_G_fg (L := [none, some (.ref 112), some (.ref 100), some (.int (0 : Int32))]) (And.intro rfl (And.intro rfl (And.intro rfl trivial))) ?_
  refine zM_copies_76_112_100_l2_ok l J X hw2 _ ?_
  show iq_Gg 0 203 (20, [none, none, none, none], [], (iq_sh l, w2, J, X)) _
  cases h
  exact iq_G_ret (fun _ => rfl)
set_option maxRecDepth 100000 in
theorem zM_copies_76_113_108_l2_bok (l : Nat)   (J : iq_J) (X : iq_X) (x3 : Int32) (I : iq_I) {q : (Int32 × iq_I) ⊕ (iq_I)} (h : zM_copies_76_113_108_l2_b  x3 I = some q) (r : iq_R × iq_M) (hc : ∀ v, q = .inl v → iq_Gg 0 203 (2, [none, some (.ref 113), some (.ref 108), some (.int v.1)], [], (iq_sh l, v.2, J, X)) r) (hx : ∀ w, q = .inr w → iq_Gg 0 203 (20, [none, none, none, none], [], (iq_sh l, w, J, X)) r) : iq_Gg 0 203 (2, [none, some (.ref 113), some (.ref 108), some (.int x3)], [], (iq_sh l, I, J, X)) r := by
  unfold zM_copies_76_113_108_l2_b at h
  refine iq_G_go (k := 3) (σ' := (5, [none, some (.ref 113), some (.ref 108), some (.int x3)], [.int (6 : Int32), .int x3], (iq_sh l, I, J, X))) (fun _ => rfl) ?_
  rcases iq_ite h with ⟨hc_, h⟩ | ⟨hc_, h⟩
  · refine iq_G_pos (c := (6 : Int32) ≤ x3) (σ1 := (20, [none, some (.ref 113), some (.ref 108), some (.int x3)], [], (iq_sh l, I, J, X))) (fun _ => rfl) hc_ ?_
    cases h
    exact iq_G_fg (L := [none, none, none, none]) trivial (hx I rfl)
  · refine iq_G_neg (c := (6 : Int32) ≤ x3) (σ1 := (8, [none, some (.ref 113), some (.ref 108), some (.int x3)], [], (iq_sh l, I, J, X))) (fun _ => rfl) hc_ ?_
    refine iq_G_go (k := 4) (σ' := (12, [none, some (.ref 113), some (.ref 108), some (.int x3)], [.int x3, .ref 113, .int x3, .ref 108], (iq_sh l, I, J, X))) (fun _ => rfl) ?_
    obtain ⟨hc_, h⟩ := iq_itn h
    refine iq_G_pos (c := iq_in x3 6) (σ1 := (13, [none, some (.ref 113), some (.ref 108), some (.int x3)], [.int (I 113 (Int32.toNatClampNeg x3)), .int x3, .ref 108], (iq_sh l, I, J, X))) (fun _ => rfl) hc_ ?_
    obtain ⟨hc_, h⟩ := iq_itn h
    refine iq_G_pos (c := iq_in x3 6) (σ1 := (14, [none, some (.ref 113), some (.ref 108), some (.int x3)], [], (iq_sh l, (iq_upI I 108 (Int32.toNatClampNeg x3) (I 113 (Int32.toNatClampNeg x3))), J, X))) (fun _ => rfl) hc_ ?_
    obtain ⟨I1, eI1, h⟩ := ir_letG h
    rw [← eI1]
    clear eI1
    refine iq_G_go (k := 2) (σ' := (2, [none, some (.ref 113), some (.ref 108), some (.int (x3 + (1 : Int32)))], [], (iq_sh l, I1, J, X))) (fun _ => rfl) ?_
    cases h
    exact iq_G_fg (L := [none, some (.ref 113), some (.ref 108), some (.int (x3 + (1 : Int32)))]) (And.intro rfl (And.intro rfl (And.intro rfl trivial))) (hc ((x3 + (1 : Int32)), I1) rfl)
set_option maxRecDepth 100000 in
theorem zM_copies_76_113_108_l2_ok (l : Nat)   (J : iq_J) (X : iq_X) {n : Nat} {v : Int32 × iq_I} {w : iq_I} (h : zM_copies_76_113_108_l2  n v = some w) (r : iq_R × iq_M) (hq : iq_Gg 0 203 (20, [none, none, none, none], [], (iq_sh l, w, J, X)) r) : iq_Gg 0 203 (2, [none, some (.ref 113), some (.ref 108), some (.int v.1)], [], (iq_sh l, v.2, J, X)) r :=
  iq_lp_ok (σ := fun v => (2, [none, some (.ref 113), some (.ref 108), some (.int v.1)], [], (iq_sh l, v.2, J, X))) (Q := fun w r => iq_Gg 0 203 (20, [none, none, none, none], [], (iq_sh l, w, J, X)) r) (fun v q hv r h1 h2 => zM_copies_76_113_108_l2_bok l J X v.1 v.2 hv r h1 h2) h r hq
set_option maxRecDepth 100000 in
theorem zM_copies_76_113_108_ok (l : Nat)   (I : iq_I) (J : iq_J) (X : iq_X) {q : iq_I} (h : zM_copies_76_113_108 I = some q) : iq_Cc 1 203 [.ref 76, .ref 113, .ref 108] (iq_sh l, I, J, X) (.inl none, (iq_sh l, q, J, X)) := by
  refine iq_Cc_of (L := [some (.ref 76), some (.ref 113), some (.ref 108), none]) rfl rfl ?_
  unfold zM_copies_76_113_108 at h
  refine iq_G_go (k := 2) (σ' := (2, [some (.ref 76), some (.ref 113), some (.ref 108), some (.int (0 : Int32))], [], (iq_sh l, I, J, X))) (fun _ => rfl) ?_
  obtain ⟨w2, hw2, h⟩ := iq_bnd h
  refine iq_G_fg (L := [none, some (.ref 113), some (.ref 108), some (.int (0 : Int32))]) (And.intro rfl (And.intro rfl (And.intro rfl trivial))) ?_
  refine zM_copies_76_113_108_l2_ok l J X hw2 _ ?_
  show iq_Gg 0 203 (20, [none, none, none, none], [], (iq_sh l, w2, J, X)) _
  cases h
  exact iq_G_ret (fun _ => rfl)
set_option maxRecDepth 100000 in
theorem zM_restore_ok (l : Nat)   (I : iq_I) (J : iq_J) (X : iq_X) {q : Int32 × iq_I} (h : zM_restore I = some q) : iq_Cc 2 310 [.ref 76] (iq_sh l, I, J, X) (.inl (some (.int q.1)), (iq_sh l, q.2, J, X)) := by
  refine iq_Cc_of (L := [some (.ref 76)]) rfl rfl ?_
  unfold zM_restore at h
  refine iq_G_go (k := 2) (σ' := (2, [some (.ref 76)], [.int (0 : Int32), .ref 76], (iq_sh l, I, J, X))) (fun _ => rfl) ?_
  refine iq_G_go (k := 1) (σ' := (5, [some (.ref 76)], [], (iq_sh l, (iq_upI I 76 0 (0 : Int32)), J, X))) (fun _ => rfl) ?_
  obtain ⟨I1, eI1, h⟩ := ir_letG h
  rw [← eI1]
  clear eI1
  refine iq_G_go (k := 2) (σ' := (9, [some (.ref 76)], [.int (I1 76 68)], (iq_sh l, I1, J, X))) (fun _ => rfl) ?_
  rcases iq_ite h with ⟨hc_, h⟩ | ⟨hc_, h⟩
  · refine iq_G_pos (c := ¬ (I1 76 68) = 0) (σ1 := (14, [some (.ref 76)], [], (iq_sh l, I1, J, X))) (fun _ => rfl) hc_ ?_
    refine iq_G_go (k := 3) (σ' := (19, [some (.ref 76)], [.int (I1 76 69), .ref 76], (iq_sh l, I1, J, X))) (fun _ => rfl) ?_
    refine iq_G_go (k := 1) (σ' := (22, [some (.ref 76)], [], (iq_sh l, (iq_upI I1 76 54 (I1 76 69)), J, X))) (fun _ => rfl) ?_
    obtain ⟨I2, eI2, h⟩ := ir_letG h
    rw [← eI2]
    clear eI2
    refine iq_G_go (k := 3) (σ' := (27, [some (.ref 76)], [.int (I2 76 70), .ref 76], (iq_sh l, I2, J, X))) (fun _ => rfl) ?_
    refine iq_G_go (k := 1) (σ' := (30, [some (.ref 76)], [], (iq_sh l, (iq_upI I2 76 63 (I2 76 70)), J, X))) (fun _ => rfl) ?_
    obtain ⟨I3, eI3, h⟩ := ir_letG h
    rw [← eI3]
    clear eI3
    refine iq_G_go (k := 5) (σ' := (39, [some (.ref 76)], [.ref 98, .ref 111, .ref 76], (iq_sh l, I3, J, X))) (fun _ => rfl) ?_
    obtain ⟨q4, hq4, h⟩ := iq_bnd h
    refine iq_G_call (σ' := (42, [some (.ref 76)], [], (iq_sh l, q4, J, X))) (fun _ => rfl) (zM_copies_76_111_98_ok l  I3 J X hq4) rfl rfl ?_
    refine iq_G_go (k := 5) (σ' := (51, [some (.ref 76)], [.ref 100, .ref 112, .ref 76], (iq_sh l, q4, J, X))) (fun _ => rfl) ?_
    obtain ⟨q5, hq5, h⟩ := iq_bnd h
    refine iq_G_call (σ' := (54, [some (.ref 76)], [], (iq_sh l, q5, J, X))) (fun _ => rfl) (zM_copies_76_112_100_ok l  q4 J X hq5) rfl rfl ?_
    refine iq_G_go (k := 5) (σ' := (63, [some (.ref 76)], [.ref 108, .ref 113, .ref 76], (iq_sh l, q5, J, X))) (fun _ => rfl) ?_
    obtain ⟨q6, hq6, h⟩ := iq_bnd h
    refine iq_G_call (σ' := (66, [some (.ref 76)], [], (iq_sh l, q6, J, X))) (fun _ => rfl) (zM_copies_76_113_108_ok l  q5 J X hq6) rfl rfl ?_
    refine iq_G_go (k := 1) (σ' := (67, [some (.ref 76)], [.int (1 : Int32)], (iq_sh l, q6, J, X))) (fun _ => rfl) ?_
    cases h
    exact iq_G_ret (fun _ => rfl)
  · refine iq_G_neg (c := ¬ (I1 76 68) = 0) (σ1 := (12, [some (.ref 76)], [], (iq_sh l, I1, J, X))) (fun _ => rfl) hc_ ?_
    refine iq_G_go (k := 1) (σ' := (13, [some (.ref 76)], [.int (0 : Int32)], (iq_sh l, I1, J, X))) (fun _ => rfl) ?_
    cases h
    exact iq_G_ret (fun _ => rfl)
set_option maxRecDepth 100000 in
theorem zA_copyFrom_30_19_ok (l : Nat)   (I : iq_I) (J : iq_J) (X : iq_X) {q : iq_I} (h : zA_copyFrom_30_19 I = some q) : iq_Cc 1 3 [.ref 30, .ref 19] (iq_sh l, I, J, X) (.inl none, (iq_sh l, q, J, X)) := by
  refine iq_Cc_of (L := [some (.ref 30), some (.ref 19)]) rfl rfl ?_
  unfold zA_copyFrom_30_19 at h
  refine iq_G_go (k := 3) (σ' := (5, [some (.ref 30), some (.ref 19)], [.int (I 19 0), .ref 30], (iq_sh l, I, J, X))) (fun _ => rfl) ?_
  refine iq_G_go (k := 1) (σ' := (8, [some (.ref 30), some (.ref 19)], [], (iq_sh l, (iq_upI I 30 0 (I 19 0)), J, X))) (fun _ => rfl) ?_
  obtain ⟨I1, eI1, h⟩ := ir_letG h
  rw [← eI1]
  clear eI1
  refine iq_G_go (k := 7) (σ' := (20, [some (.ref 30), some (.ref 19)], [.int (40 : Int32), .int (0 : Int32), .ref 31, .int (0 : Int32), .ref 20], (iq_sh l, I1, J, X))) (fun _ => rfl) ?_
  refine iq_G_go (k := 1) (σ' := (23, [some (.ref 30), some (.ref 19)], [], (iq_sh l, (iq_cpI I1 20 31 0 0 40), J, X))) (fun _ => rfl) ?_
  obtain ⟨I2, eI2, h⟩ := ir_letG h
  rw [← eI2]
  clear eI2
  refine iq_G_go (k := 7) (σ' := (35, [some (.ref 30), some (.ref 19)], [.int (40 : Int32), .int (0 : Int32), .ref 32, .int (0 : Int32), .ref 21], (iq_sh l, I2, J, X))) (fun _ => rfl) ?_
  refine iq_G_go (k := 1) (σ' := (38, [some (.ref 30), some (.ref 19)], [], (iq_sh l, (iq_cpI I2 21 32 0 0 40), J, X))) (fun _ => rfl) ?_
  obtain ⟨I3, eI3, h⟩ := ir_letG h
  rw [← eI3]
  clear eI3
  refine iq_G_go (k := 7) (σ' := (50, [some (.ref 30), some (.ref 19)], [.int (40 : Int32), .int (0 : Int32), .ref 33, .int (0 : Int32), .ref 22], (iq_sh l, I3, J, X))) (fun _ => rfl) ?_
  refine iq_G_go (k := 1) (σ' := (53, [some (.ref 30), some (.ref 19)], [], (iq_sh l, (iq_cpI I3 22 33 0 0 40), J, X))) (fun _ => rfl) ?_
  obtain ⟨I4, eI4, h⟩ := ir_letG h
  rw [← eI4]
  clear eI4
  refine iq_G_go (k := 7) (σ' := (65, [some (.ref 30), some (.ref 19)], [.int (40 : Int32), .int (0 : Int32), .ref 34, .int (0 : Int32), .ref 23], (iq_sh l, I4, J, X))) (fun _ => rfl) ?_
  refine iq_G_go (k := 1) (σ' := (68, [some (.ref 30), some (.ref 19)], [], (iq_sh l, (iq_cpI I4 23 34 0 0 40), J, X))) (fun _ => rfl) ?_
  obtain ⟨I5, eI5, h⟩ := ir_letG h
  rw [← eI5]
  clear eI5
  cases h
  exact iq_G_ret (fun _ => rfl)
set_option maxRecDepth 100000 in
theorem zG_copyFrom_27_16_ok (l : Nat)   (I : iq_I) (J : iq_J) (X : iq_X) {q : iq_I} (h : zG_copyFrom_27_16 I = some q) : iq_Cc 2 6 [.ref 27, .ref 16] (iq_sh l, I, J, X) (.inl none, (iq_sh l, q, J, X)) := by
  refine iq_Cc_of (L := [some (.ref 27), some (.ref 16)]) rfl rfl ?_
  unfold zG_copyFrom_27_16 at h
  refine iq_G_go (k := 3) (σ' := (5, [some (.ref 27), some (.ref 16)], [.int (I 16 0), .ref 27], (iq_sh l, I, J, X))) (fun _ => rfl) ?_
  refine iq_G_go (k := 1) (σ' := (8, [some (.ref 27), some (.ref 16)], [], (iq_sh l, (iq_upI I 27 0 (I 16 0)), J, X))) (fun _ => rfl) ?_
  obtain ⟨I1, eI1, h⟩ := ir_letG h
  rw [← eI1]
  clear eI1
  refine iq_G_go (k := 3) (σ' := (13, [some (.ref 27), some (.ref 16)], [.int (I1 16 1), .ref 27], (iq_sh l, I1, J, X))) (fun _ => rfl) ?_
  refine iq_G_go (k := 1) (σ' := (16, [some (.ref 27), some (.ref 16)], [], (iq_sh l, (iq_upI I1 27 1 (I1 16 1)), J, X))) (fun _ => rfl) ?_
  obtain ⟨I2, eI2, h⟩ := ir_letG h
  rw [← eI2]
  clear eI2
  refine iq_G_go (k := 3) (σ' := (21, [some (.ref 27), some (.ref 16)], [.int (I2 16 2), .ref 27], (iq_sh l, I2, J, X))) (fun _ => rfl) ?_
  refine iq_G_go (k := 1) (σ' := (24, [some (.ref 27), some (.ref 16)], [], (iq_sh l, (iq_upI I2 27 2 (I2 16 2)), J, X))) (fun _ => rfl) ?_
  obtain ⟨I3, eI3, h⟩ := ir_letG h
  rw [← eI3]
  clear eI3
  refine iq_G_go (k := 7) (σ' := (35, [some (.ref 27), some (.ref 16)], [.int (5 : Int32), .int (0 : Int32), .ref 28, .int (0 : Int32), .ref 17], (iq_sh l, I3, J, X))) (fun _ => rfl) ?_
  refine iq_G_go (k := 1) (σ' := (38, [some (.ref 27), some (.ref 16)], [], (iq_sh l, (iq_cpI I3 17 28 0 0 5), J, X))) (fun _ => rfl) ?_
  obtain ⟨I4, eI4, h⟩ := ir_letG h
  rw [← eI4]
  clear eI4
  refine iq_G_go (k := 7) (σ' := (49, [some (.ref 27), some (.ref 16)], [.int (5 : Int32), .int (0 : Int32), .ref 29, .int (0 : Int32), .ref 18], (iq_sh l, I4, J, X))) (fun _ => rfl) ?_
  refine iq_G_go (k := 1) (σ' := (52, [some (.ref 27), some (.ref 16)], [], (iq_sh l, (iq_cpI I4 18 29 0 0 5), J, X))) (fun _ => rfl) ?_
  obtain ⟨I5, eI5, h⟩ := ir_letG h
  rw [← eI5]
  clear eI5
  refine iq_G_go (k := 9) (σ' := (67, [some (.ref 27), some (.ref 16)], [.int (200 : Int32), .int (0 : Int32), .ref 35, .int (0 : Int32), .ref 24], (iq_sh l, I5, J, X))) (fun _ => rfl) ?_
  refine iq_G_go (k := 1) (σ' := (70, [some (.ref 27), some (.ref 16)], [], (iq_sh l, (iq_cpI I5 24 35 0 0 200), J, X))) (fun _ => rfl) ?_
  obtain ⟨I6, eI6, h⟩ := ir_letG h
  rw [← eI6]
  clear eI6
  refine iq_G_go (k := 7) (σ' := (81, [some (.ref 27), some (.ref 16)], [.int (3 : Int32), .int (0 : Int32), .ref 36, .int (0 : Int32), .ref 25], (iq_sh l, I6, J, X))) (fun _ => rfl) ?_
  refine iq_G_go (k := 1) (σ' := (84, [some (.ref 27), some (.ref 16)], [], (iq_sh l, (iq_cpI I6 25 36 0 0 3), J, X))) (fun _ => rfl) ?_
  obtain ⟨I7, eI7, h⟩ := ir_letG h
  rw [← eI7]
  clear eI7
  refine iq_G_go (k := 7) (σ' := (95, [some (.ref 27), some (.ref 16)], [.int (3 : Int32), .int (0 : Int32), .ref 37, .int (0 : Int32), .ref 26], (iq_sh l, I7, J, X))) (fun _ => rfl) ?_
  refine iq_G_go (k := 1) (σ' := (98, [some (.ref 27), some (.ref 16)], [], (iq_sh l, (iq_cpI I7 26 37 0 0 3), J, X))) (fun _ => rfl) ?_
  obtain ⟨I8, eI8, h⟩ := ir_letG h
  rw [← eI8]
  clear eI8
  refine iq_G_go (k := 4) (σ' := (106, [some (.ref 27), some (.ref 16)], [.ref 19, .ref 30], (iq_sh l, I8, J, X))) (fun _ => rfl) ?_
  obtain ⟨q9, hq9, h⟩ := iq_bnd h
  refine iq_G_call (σ' := (109, [some (.ref 27), some (.ref 16)], [], (iq_sh l, q9, J, X))) (fun _ => rfl) (zA_copyFrom_30_19_ok l  I8 J X hq9) rfl rfl ?_
  cases h
  exact iq_G_ret (fun _ => rfl)
set_option maxRecDepth 100000 in
theorem zO_image_ok (l : Nat)   (I : iq_I) (J : iq_J) (X : iq_X) {q : iq_I} (h : zO_image I = some q) : iq_Cc 3 188 [.ref 1] (iq_sh l, I, J, X) (.inl none, (iq_sh l, q, J, X)) := by
  refine iq_Cc_of (L := [some (.ref 1)]) rfl rfl ?_
  unfold zO_image at h
  refine iq_G_go (k := 4) (σ' := (8, [some (.ref 1)], [.ref 16, .ref 27], (iq_sh l, I, J, X))) (fun _ => rfl) ?_
  obtain ⟨q1, hq1, h⟩ := iq_bnd h
  refine iq_G_call (σ' := (11, [some (.ref 1)], [], (iq_sh l, q1, J, X))) (fun _ => rfl) (zG_copyFrom_27_16_ok l  I J X hq1) rfl rfl ?_
  refine iq_G_go (k := 2) (σ' := (13, [some (.ref 1)], [.int (1 : Int32), .ref 1], (iq_sh l, q1, J, X))) (fun _ => rfl) ?_
  refine iq_G_go (k := 1) (σ' := (16, [some (.ref 1)], [], (iq_sh l, (iq_upI q1 1 13 (1 : Int32)), J, X))) (fun _ => rfl) ?_
  obtain ⟨I2, eI2, h⟩ := ir_letG h
  rw [← eI2]
  clear eI2
  cases h
  exact iq_G_ret (fun _ => rfl)
set_option maxRecDepth 100000 in
theorem zM_copies_76_98_111_l2_bok (l : Nat)   (J : iq_J) (X : iq_X) (x3 : Int32) (I : iq_I) {q : (Int32 × iq_I) ⊕ (iq_I)} (h : zM_copies_76_98_111_l2_b  x3 I = some q) (r : iq_R × iq_M) (hc : ∀ v, q = .inl v → iq_Gg 0 203 (2, [none, some (.ref 98), some (.ref 111), some (.int v.1)], [], (iq_sh l, v.2, J, X)) r) (hx : ∀ w, q = .inr w → iq_Gg 0 203 (20, [none, none, none, none], [], (iq_sh l, w, J, X)) r) : iq_Gg 0 203 (2, [none, some (.ref 98), some (.ref 111), some (.int x3)], [], (iq_sh l, I, J, X)) r := by
  unfold zM_copies_76_98_111_l2_b at h
  refine iq_G_go (k := 3) (σ' := (5, [none, some (.ref 98), some (.ref 111), some (.int x3)], [.int (206 : Int32), .int x3], (iq_sh l, I, J, X))) (fun _ => rfl) ?_
  rcases iq_ite h with ⟨hc_, h⟩ | ⟨hc_, h⟩
  · refine iq_G_pos (c := (206 : Int32) ≤ x3) (σ1 := (20, [none, some (.ref 98), some (.ref 111), some (.int x3)], [], (iq_sh l, I, J, X))) (fun _ => rfl) hc_ ?_
    cases h
    exact iq_G_fg (L := [none, none, none, none]) trivial (hx I rfl)
  · refine iq_G_neg (c := (206 : Int32) ≤ x3) (σ1 := (8, [none, some (.ref 98), some (.ref 111), some (.int x3)], [], (iq_sh l, I, J, X))) (fun _ => rfl) hc_ ?_
    refine iq_G_go (k := 4) (σ' := (12, [none, some (.ref 98), some (.ref 111), some (.int x3)], [.int x3, .ref 98, .int x3, .ref 111], (iq_sh l, I, J, X))) (fun _ => rfl) ?_
    obtain ⟨hc_, h⟩ := iq_itn h
    refine iq_G_pos (c := iq_in x3 206) (σ1 := (13, [none, some (.ref 98), some (.ref 111), some (.int x3)], [.int (I 98 (Int32.toNatClampNeg x3)), .int x3, .ref 111], (iq_sh l, I, J, X))) (fun _ => rfl) hc_ ?_
    obtain ⟨hc_, h⟩ := iq_itn h
    refine iq_G_pos (c := iq_in x3 206) (σ1 := (14, [none, some (.ref 98), some (.ref 111), some (.int x3)], [], (iq_sh l, (iq_upI I 111 (Int32.toNatClampNeg x3) (I 98 (Int32.toNatClampNeg x3))), J, X))) (fun _ => rfl) hc_ ?_
    obtain ⟨I1, eI1, h⟩ := ir_letG h
    rw [← eI1]
    clear eI1
    refine iq_G_go (k := 2) (σ' := (2, [none, some (.ref 98), some (.ref 111), some (.int (x3 + (1 : Int32)))], [], (iq_sh l, I1, J, X))) (fun _ => rfl) ?_
    cases h
    exact iq_G_fg (L := [none, some (.ref 98), some (.ref 111), some (.int (x3 + (1 : Int32)))]) (And.intro rfl (And.intro rfl (And.intro rfl trivial))) (hc ((x3 + (1 : Int32)), I1) rfl)
set_option maxRecDepth 100000 in
theorem zM_copies_76_98_111_l2_ok (l : Nat)   (J : iq_J) (X : iq_X) {n : Nat} {v : Int32 × iq_I} {w : iq_I} (h : zM_copies_76_98_111_l2  n v = some w) (r : iq_R × iq_M) (hq : iq_Gg 0 203 (20, [none, none, none, none], [], (iq_sh l, w, J, X)) r) : iq_Gg 0 203 (2, [none, some (.ref 98), some (.ref 111), some (.int v.1)], [], (iq_sh l, v.2, J, X)) r :=
  iq_lp_ok (σ := fun v => (2, [none, some (.ref 98), some (.ref 111), some (.int v.1)], [], (iq_sh l, v.2, J, X))) (Q := fun w r => iq_Gg 0 203 (20, [none, none, none, none], [], (iq_sh l, w, J, X)) r) (fun v q hv r h1 h2 => zM_copies_76_98_111_l2_bok l J X v.1 v.2 hv r h1 h2) h r hq
set_option maxRecDepth 100000 in
theorem zM_copies_76_98_111_ok (l : Nat)   (I : iq_I) (J : iq_J) (X : iq_X) {q : iq_I} (h : zM_copies_76_98_111 I = some q) : iq_Cc 1 203 [.ref 76, .ref 98, .ref 111] (iq_sh l, I, J, X) (.inl none, (iq_sh l, q, J, X)) := by
  refine iq_Cc_of (L := [some (.ref 76), some (.ref 98), some (.ref 111), none]) rfl rfl ?_
  unfold zM_copies_76_98_111 at h
  refine iq_G_go (k := 2) (σ' := (2, [some (.ref 76), some (.ref 98), some (.ref 111), some (.int (0 : Int32))], [], (iq_sh l, I, J, X))) (fun _ => rfl) ?_
  obtain ⟨w2, hw2, h⟩ := iq_bnd h
  refine iq_G_fg (L := [none, some (.ref 98), some (.ref 111), some (.int (0 : Int32))]) (And.intro rfl (And.intro rfl (And.intro rfl trivial))) ?_
  refine zM_copies_76_98_111_l2_ok l J X hw2 _ ?_
  show iq_Gg 0 203 (20, [none, none, none, none], [], (iq_sh l, w2, J, X)) _
  cases h
  exact iq_G_ret (fun _ => rfl)
set_option maxRecDepth 100000 in
theorem zM_copies_76_100_112_l2_bok (l : Nat)   (J : iq_J) (X : iq_X) (x3 : Int32) (I : iq_I) {q : (Int32 × iq_I) ⊕ (iq_I)} (h : zM_copies_76_100_112_l2_b  x3 I = some q) (r : iq_R × iq_M) (hc : ∀ v, q = .inl v → iq_Gg 0 203 (2, [none, some (.ref 100), some (.ref 112), some (.int v.1)], [], (iq_sh l, v.2, J, X)) r) (hx : ∀ w, q = .inr w → iq_Gg 0 203 (20, [none, none, none, none], [], (iq_sh l, w, J, X)) r) : iq_Gg 0 203 (2, [none, some (.ref 100), some (.ref 112), some (.int x3)], [], (iq_sh l, I, J, X)) r := by
  unfold zM_copies_76_100_112_l2_b at h
  refine iq_G_go (k := 3) (σ' := (5, [none, some (.ref 100), some (.ref 112), some (.int x3)], [.int (8240 : Int32), .int x3], (iq_sh l, I, J, X))) (fun _ => rfl) ?_
  rcases iq_ite h with ⟨hc_, h⟩ | ⟨hc_, h⟩
  · refine iq_G_pos (c := (8240 : Int32) ≤ x3) (σ1 := (20, [none, some (.ref 100), some (.ref 112), some (.int x3)], [], (iq_sh l, I, J, X))) (fun _ => rfl) hc_ ?_
    cases h
    exact iq_G_fg (L := [none, none, none, none]) trivial (hx I rfl)
  · refine iq_G_neg (c := (8240 : Int32) ≤ x3) (σ1 := (8, [none, some (.ref 100), some (.ref 112), some (.int x3)], [], (iq_sh l, I, J, X))) (fun _ => rfl) hc_ ?_
    refine iq_G_go (k := 4) (σ' := (12, [none, some (.ref 100), some (.ref 112), some (.int x3)], [.int x3, .ref 100, .int x3, .ref 112], (iq_sh l, I, J, X))) (fun _ => rfl) ?_
    obtain ⟨hc_, h⟩ := iq_itn h
    refine iq_G_pos (c := iq_in x3 8240) (σ1 := (13, [none, some (.ref 100), some (.ref 112), some (.int x3)], [.int (I 100 (Int32.toNatClampNeg x3)), .int x3, .ref 112], (iq_sh l, I, J, X))) (fun _ => rfl) hc_ ?_
    obtain ⟨hc_, h⟩ := iq_itn h
    refine iq_G_pos (c := iq_in x3 8240) (σ1 := (14, [none, some (.ref 100), some (.ref 112), some (.int x3)], [], (iq_sh l, (iq_upI I 112 (Int32.toNatClampNeg x3) (I 100 (Int32.toNatClampNeg x3))), J, X))) (fun _ => rfl) hc_ ?_
    obtain ⟨I1, eI1, h⟩ := ir_letG h
    rw [← eI1]
    clear eI1
    refine iq_G_go (k := 2) (σ' := (2, [none, some (.ref 100), some (.ref 112), some (.int (x3 + (1 : Int32)))], [], (iq_sh l, I1, J, X))) (fun _ => rfl) ?_
    cases h
    exact iq_G_fg (L := [none, some (.ref 100), some (.ref 112), some (.int (x3 + (1 : Int32)))]) (And.intro rfl (And.intro rfl (And.intro rfl trivial))) (hc ((x3 + (1 : Int32)), I1) rfl)
set_option maxRecDepth 100000 in
theorem zM_copies_76_100_112_l2_ok (l : Nat)   (J : iq_J) (X : iq_X) {n : Nat} {v : Int32 × iq_I} {w : iq_I} (h : zM_copies_76_100_112_l2  n v = some w) (r : iq_R × iq_M) (hq : iq_Gg 0 203 (20, [none, none, none, none], [], (iq_sh l, w, J, X)) r) : iq_Gg 0 203 (2, [none, some (.ref 100), some (.ref 112), some (.int v.1)], [], (iq_sh l, v.2, J, X)) r :=
  iq_lp_ok (σ := fun v => (2, [none, some (.ref 100), some (.ref 112), some (.int v.1)], [], (iq_sh l, v.2, J, X))) (Q := fun w r => iq_Gg 0 203 (20, [none, none, none, none], [], (iq_sh l, w, J, X)) r) (fun v q hv r h1 h2 => zM_copies_76_100_112_l2_bok l J X v.1 v.2 hv r h1 h2) h r hq
set_option maxRecDepth 100000 in
theorem zM_copies_76_100_112_ok (l : Nat)   (I : iq_I) (J : iq_J) (X : iq_X) {q : iq_I} (h : zM_copies_76_100_112 I = some q) : iq_Cc 1 203 [.ref 76, .ref 100, .ref 112] (iq_sh l, I, J, X) (.inl none, (iq_sh l, q, J, X)) := by
  refine iq_Cc_of (L := [some (.ref 76), some (.ref 100), some (.ref 112), none]) rfl rfl ?_
  unfold zM_copies_76_100_112 at h
  refine iq_G_go (k := 2) (σ' := (2, [some (.ref 76), some (.ref 100), some (.ref 112), some (.int (0 : Int32))], [], (iq_sh l, I, J, X))) (fun _ => rfl) ?_
  obtain ⟨w2, hw2, h⟩ := iq_bnd h
  refine iq_G_fg (L := [none, some (.ref 100), some (.ref 112), some (.int (0 : Int32))]) (And.intro rfl (And.intro rfl (And.intro rfl trivial))) ?_
  refine zM_copies_76_100_112_l2_ok l J X hw2 _ ?_
  show iq_Gg 0 203 (20, [none, none, none, none], [], (iq_sh l, w2, J, X)) _
  cases h
  exact iq_G_ret (fun _ => rfl)
set_option maxRecDepth 100000 in
theorem zM_copies_76_108_113_l2_bok (l : Nat)   (J : iq_J) (X : iq_X) (x3 : Int32) (I : iq_I) {q : (Int32 × iq_I) ⊕ (iq_I)} (h : zM_copies_76_108_113_l2_b  x3 I = some q) (r : iq_R × iq_M) (hc : ∀ v, q = .inl v → iq_Gg 0 203 (2, [none, some (.ref 108), some (.ref 113), some (.int v.1)], [], (iq_sh l, v.2, J, X)) r) (hx : ∀ w, q = .inr w → iq_Gg 0 203 (20, [none, none, none, none], [], (iq_sh l, w, J, X)) r) : iq_Gg 0 203 (2, [none, some (.ref 108), some (.ref 113), some (.int x3)], [], (iq_sh l, I, J, X)) r := by
  unfold zM_copies_76_108_113_l2_b at h
  refine iq_G_go (k := 3) (σ' := (5, [none, some (.ref 108), some (.ref 113), some (.int x3)], [.int (6 : Int32), .int x3], (iq_sh l, I, J, X))) (fun _ => rfl) ?_
  rcases iq_ite h with ⟨hc_, h⟩ | ⟨hc_, h⟩
  · refine iq_G_pos (c := (6 : Int32) ≤ x3) (σ1 := (20, [none, some (.ref 108), some (.ref 113), some (.int x3)], [], (iq_sh l, I, J, X))) (fun _ => rfl) hc_ ?_
    cases h
    exact iq_G_fg (L := [none, none, none, none]) trivial (hx I rfl)
  · refine iq_G_neg (c := (6 : Int32) ≤ x3) (σ1 := (8, [none, some (.ref 108), some (.ref 113), some (.int x3)], [], (iq_sh l, I, J, X))) (fun _ => rfl) hc_ ?_
    refine iq_G_go (k := 4) (σ' := (12, [none, some (.ref 108), some (.ref 113), some (.int x3)], [.int x3, .ref 108, .int x3, .ref 113], (iq_sh l, I, J, X))) (fun _ => rfl) ?_
    obtain ⟨hc_, h⟩ := iq_itn h
    refine iq_G_pos (c := iq_in x3 6) (σ1 := (13, [none, some (.ref 108), some (.ref 113), some (.int x3)], [.int (I 108 (Int32.toNatClampNeg x3)), .int x3, .ref 113], (iq_sh l, I, J, X))) (fun _ => rfl) hc_ ?_
    obtain ⟨hc_, h⟩ := iq_itn h
    refine iq_G_pos (c := iq_in x3 6) (σ1 := (14, [none, some (.ref 108), some (.ref 113), some (.int x3)], [], (iq_sh l, (iq_upI I 113 (Int32.toNatClampNeg x3) (I 108 (Int32.toNatClampNeg x3))), J, X))) (fun _ => rfl) hc_ ?_
    obtain ⟨I1, eI1, h⟩ := ir_letG h
    rw [← eI1]
    clear eI1
    refine iq_G_go (k := 2) (σ' := (2, [none, some (.ref 108), some (.ref 113), some (.int (x3 + (1 : Int32)))], [], (iq_sh l, I1, J, X))) (fun _ => rfl) ?_
    cases h
    exact iq_G_fg (L := [none, some (.ref 108), some (.ref 113), some (.int (x3 + (1 : Int32)))]) (And.intro rfl (And.intro rfl (And.intro rfl trivial))) (hc ((x3 + (1 : Int32)), I1) rfl)
set_option maxRecDepth 100000 in
theorem zM_copies_76_108_113_l2_ok (l : Nat)   (J : iq_J) (X : iq_X) {n : Nat} {v : Int32 × iq_I} {w : iq_I} (h : zM_copies_76_108_113_l2  n v = some w) (r : iq_R × iq_M) (hq : iq_Gg 0 203 (20, [none, none, none, none], [], (iq_sh l, w, J, X)) r) : iq_Gg 0 203 (2, [none, some (.ref 108), some (.ref 113), some (.int v.1)], [], (iq_sh l, v.2, J, X)) r :=
  iq_lp_ok (σ := fun v => (2, [none, some (.ref 108), some (.ref 113), some (.int v.1)], [], (iq_sh l, v.2, J, X))) (Q := fun w r => iq_Gg 0 203 (20, [none, none, none, none], [], (iq_sh l, w, J, X)) r) (fun v q hv r h1 h2 => zM_copies_76_108_113_l2_bok l J X v.1 v.2 hv r h1 h2) h r hq
set_option maxRecDepth 100000 in
theorem zM_copies_76_108_113_ok (l : Nat)   (I : iq_I) (J : iq_J) (X : iq_X) {q : iq_I} (h : zM_copies_76_108_113 I = some q) : iq_Cc 1 203 [.ref 76, .ref 108, .ref 113] (iq_sh l, I, J, X) (.inl none, (iq_sh l, q, J, X)) := by
  refine iq_Cc_of (L := [some (.ref 76), some (.ref 108), some (.ref 113), none]) rfl rfl ?_
  unfold zM_copies_76_108_113 at h
  refine iq_G_go (k := 2) (σ' := (2, [some (.ref 76), some (.ref 108), some (.ref 113), some (.int (0 : Int32))], [], (iq_sh l, I, J, X))) (fun _ => rfl) ?_
  obtain ⟨w2, hw2, h⟩ := iq_bnd h
  refine iq_G_fg (L := [none, some (.ref 108), some (.ref 113), some (.int (0 : Int32))]) (And.intro rfl (And.intro rfl (And.intro rfl trivial))) ?_
  refine zM_copies_76_108_113_l2_ok l J X hw2 _ ?_
  show iq_Gg 0 203 (20, [none, none, none, none], [], (iq_sh l, w2, J, X)) _
  cases h
  exact iq_G_ret (fun _ => rfl)
set_option maxRecDepth 100000 in
theorem zM_image_ok (l : Nat)   (I : iq_I) (J : iq_J) (X : iq_X) {q : iq_I} (h : zM_image I = some q) : iq_Cc 2 309 [.ref 76] (iq_sh l, I, J, X) (.inl none, (iq_sh l, q, J, X)) := by
  refine iq_Cc_of (L := [some (.ref 76)]) rfl rfl ?_
  unfold zM_image at h
  refine iq_G_go (k := 2) (σ' := (2, [some (.ref 76)], [.int (0 : Int32), .ref 76], (iq_sh l, I, J, X))) (fun _ => rfl) ?_
  refine iq_G_go (k := 1) (σ' := (5, [some (.ref 76)], [], (iq_sh l, (iq_upI I 76 0 (0 : Int32)), J, X))) (fun _ => rfl) ?_
  obtain ⟨I1, eI1, h⟩ := ir_letG h
  rw [← eI1]
  clear eI1
  refine iq_G_go (k := 2) (σ' := (7, [some (.ref 76)], [.int (1 : Int32), .ref 76], (iq_sh l, I1, J, X))) (fun _ => rfl) ?_
  refine iq_G_go (k := 1) (σ' := (10, [some (.ref 76)], [], (iq_sh l, (iq_upI I1 76 68 (1 : Int32)), J, X))) (fun _ => rfl) ?_
  obtain ⟨I2, eI2, h⟩ := ir_letG h
  rw [← eI2]
  clear eI2
  refine iq_G_go (k := 3) (σ' := (15, [some (.ref 76)], [.int (I2 76 54), .ref 76], (iq_sh l, I2, J, X))) (fun _ => rfl) ?_
  refine iq_G_go (k := 1) (σ' := (18, [some (.ref 76)], [], (iq_sh l, (iq_upI I2 76 69 (I2 76 54)), J, X))) (fun _ => rfl) ?_
  obtain ⟨I3, eI3, h⟩ := ir_letG h
  rw [← eI3]
  clear eI3
  refine iq_G_go (k := 3) (σ' := (23, [some (.ref 76)], [.int (I3 76 63), .ref 76], (iq_sh l, I3, J, X))) (fun _ => rfl) ?_
  refine iq_G_go (k := 1) (σ' := (26, [some (.ref 76)], [], (iq_sh l, (iq_upI I3 76 70 (I3 76 63)), J, X))) (fun _ => rfl) ?_
  obtain ⟨I4, eI4, h⟩ := ir_letG h
  rw [← eI4]
  clear eI4
  refine iq_G_go (k := 5) (σ' := (35, [some (.ref 76)], [.ref 111, .ref 98, .ref 76], (iq_sh l, I4, J, X))) (fun _ => rfl) ?_
  obtain ⟨q5, hq5, h⟩ := iq_bnd h
  refine iq_G_call (σ' := (38, [some (.ref 76)], [], (iq_sh l, q5, J, X))) (fun _ => rfl) (zM_copies_76_98_111_ok l  I4 J X hq5) rfl rfl ?_
  refine iq_G_go (k := 5) (σ' := (47, [some (.ref 76)], [.ref 112, .ref 100, .ref 76], (iq_sh l, q5, J, X))) (fun _ => rfl) ?_
  obtain ⟨q6, hq6, h⟩ := iq_bnd h
  refine iq_G_call (σ' := (50, [some (.ref 76)], [], (iq_sh l, q6, J, X))) (fun _ => rfl) (zM_copies_76_100_112_ok l  q5 J X hq6) rfl rfl ?_
  refine iq_G_go (k := 5) (σ' := (59, [some (.ref 76)], [.ref 113, .ref 108, .ref 76], (iq_sh l, q6, J, X))) (fun _ => rfl) ?_
  obtain ⟨q7, hq7, h⟩ := iq_bnd h
  refine iq_G_call (σ' := (62, [some (.ref 76)], [], (iq_sh l, q7, J, X))) (fun _ => rfl) (zM_copies_76_108_113_ok l  q6 J X hq7) rfl rfl ?_
  cases h
  exact iq_G_ret (fun _ => rfl)
set_option maxRecDepth 100000 in
theorem zO_needSaying_15_ok (l : Nat)   (I : iq_I) (J : iq_J) (X : iq_X)  {q : (Unit ⊕ Nat) × iq_X} (h : zO_needSaying_15 I X = some q)  : iq_Gg 0 195 (15, [none, none], [], (iq_sh l, I, J, X)) ((ir_Rv q.1), (iq_sh l, I, J, q.2)) := by
  unfold zO_needSaying_15 at h
  cases h
  exact iq_G_ret (fun _ => rfl)
set_option maxRecDepth 100000 in
theorem zO_needSaying_ok (l : Nat)  (x1 : Int32) (I : iq_I) (J : iq_J) (X : iq_X) {q : (Unit ⊕ Nat) × iq_X} (h : zO_needSaying x1 I X = some q) : iq_Cc 1 195 [.ref 1, .int x1] (iq_sh l, I, J, X) ((ir_Rv q.1), (iq_sh l, I, J, q.2)) := by
  refine iq_Cc_of (L := [some (.ref 1), some (.int x1)]) rfl rfl ?_
  unfold zO_needSaying at h
  refine iq_G_go (k := 1) (σ' := (1, [some (.ref 1), some (.int x1)], [.int x1], (iq_sh l, I, J, X))) (fun _ => rfl) ?_
  rcases iq_ite h with ⟨hc_, h⟩ | ⟨hc_, h⟩
  · refine iq_G_pos (c := x1 < 0) (σ1 := (15, [some (.ref 1), some (.int x1)], [], (iq_sh l, I, J, X))) (fun _ => rfl) hc_ ?_
    exact iq_G_fg (L := [none, none]) trivial (zO_needSaying_15_ok l I J X  h )
  · refine iq_G_neg (c := x1 < 0) (σ1 := (4, [some (.ref 1), some (.int x1)], [], (iq_sh l, I, J, X))) (fun _ => rfl) hc_ ?_
    refine iq_G_go (k := 4) (σ' := (12, [some (.ref 1), some (.int x1)], [.int (I 16 0), .int x1], (iq_sh l, I, J, X))) (fun _ => rfl) ?_
    rcases iq_ite h with ⟨hc_, h⟩ | ⟨hc_, h⟩
    · refine iq_G_pos (c := x1 < (I 16 0)) (σ1 := (26, [some (.ref 1), some (.int x1)], [], (iq_sh l, I, J, X))) (fun _ => rfl) hc_ ?_
      cases h
      exact iq_G_ret (fun _ => rfl)
    · refine iq_G_neg (c := x1 < (I 16 0)) (σ1 := (15, [some (.ref 1), some (.int x1)], [], (iq_sh l, I, J, X))) (fun _ => rfl) hc_ ?_
      exact iq_G_fg (L := [none, none]) trivial (zO_needSaying_15_ok l I J X  h )
set_option maxRecDepth 100000 in
theorem zG_wordAt_16_ok (l : Nat)  (x1 : Int32) (x2 : Int32) (I : iq_I) (J : iq_J) (X : iq_X) {q : Int32} (h : zG_wordAt_16 x1 x2 I = some q) : iq_Cc 1 10 [.ref 16, .int x1, .int x2] (iq_sh l, I, J, X) (.inl (some (.int q)), (iq_sh l, I, J, X)) := by
  refine iq_Cc_of (L := [some (.ref 16), some (.int x1), some (.int x2)]) rfl rfl ?_
  unfold zG_wordAt_16 at h
  refine iq_G_go (k := 1) (σ' := (1, [some (.ref 16), some (.int x1), some (.int x2)], [.int x1], (iq_sh l, I, J, X))) (fun _ => rfl) ?_
  rcases iq_ite h with ⟨hc_, h⟩ | ⟨hc_, h⟩
  · refine iq_G_pos (c := x1 < 0) (σ1 := (26, [some (.ref 16), some (.int x1), some (.int x2)], [], (iq_sh l, I, J, X))) (fun _ => rfl) hc_ ?_
    refine iq_G_go (k := 1) (σ' := (27, [some (.ref 16), some (.int x1), some (.int x2)], [.int (-1 : Int32)], (iq_sh l, I, J, X))) (fun _ => rfl) ?_
    cases h
    exact iq_G_ret (fun _ => rfl)
  · refine iq_G_neg (c := x1 < 0) (σ1 := (4, [some (.ref 16), some (.int x1), some (.int x2)], [], (iq_sh l, I, J, X))) (fun _ => rfl) hc_ ?_
    refine iq_G_go (k := 3) (σ' := (9, [some (.ref 16), some (.int x1), some (.int x2)], [.int (I 16 0), .int x1], (iq_sh l, I, J, X))) (fun _ => rfl) ?_
    rcases iq_ite h with ⟨hc_, h⟩ | ⟨hc_, h⟩
    · refine iq_G_pos (c := (I 16 0) ≤ x1) (σ1 := (26, [some (.ref 16), some (.int x1), some (.int x2)], [], (iq_sh l, I, J, X))) (fun _ => rfl) hc_ ?_
      refine iq_G_go (k := 1) (σ' := (27, [some (.ref 16), some (.int x1), some (.int x2)], [.int (-1 : Int32)], (iq_sh l, I, J, X))) (fun _ => rfl) ?_
      cases h
      exact iq_G_ret (fun _ => rfl)
    · refine iq_G_neg (c := (I 16 0) ≤ x1) (σ1 := (12, [some (.ref 16), some (.int x1), some (.int x2)], [], (iq_sh l, I, J, X))) (fun _ => rfl) hc_ ?_
      refine iq_G_go (k := 1) (σ' := (13, [some (.ref 16), some (.int x1), some (.int x2)], [.int x2], (iq_sh l, I, J, X))) (fun _ => rfl) ?_
      rcases iq_ite h with ⟨hc_, h⟩ | ⟨hc_, h⟩
      · refine iq_G_pos (c := x2 < 0) (σ1 := (26, [some (.ref 16), some (.int x1), some (.int x2)], [], (iq_sh l, I, J, X))) (fun _ => rfl) hc_ ?_
        refine iq_G_go (k := 1) (σ' := (27, [some (.ref 16), some (.int x1), some (.int x2)], [.int (-1 : Int32)], (iq_sh l, I, J, X))) (fun _ => rfl) ?_
        cases h
        exact iq_G_ret (fun _ => rfl)
      · refine iq_G_neg (c := x2 < 0) (σ1 := (16, [some (.ref 16), some (.int x1), some (.int x2)], [], (iq_sh l, I, J, X))) (fun _ => rfl) hc_ ?_
        refine iq_G_go (k := 4) (σ' := (22, [some (.ref 16), some (.int x1), some (.int x2)], [.int x1, .ref 18, .int x2], (iq_sh l, I, J, X))) (fun _ => rfl) ?_
        obtain ⟨hc_, h⟩ := iq_itn h
        refine iq_G_pos (c := iq_in x1 5) (σ1 := (23, [some (.ref 16), some (.int x1), some (.int x2)], [.int (I 18 (Int32.toNatClampNeg x1)), .int x2], (iq_sh l, I, J, X))) (fun _ => rfl) hc_ ?_
        rcases iq_ite h with ⟨hc_, h⟩ | ⟨hc_, h⟩
        · refine iq_G_pos (c := x2 < (I 18 (Int32.toNatClampNeg x1))) (σ1 := (28, [some (.ref 16), some (.int x1), some (.int x2)], [], (iq_sh l, I, J, X))) (fun _ => rfl) hc_ ?_
          refine iq_G_go (k := 7) (σ' := (38, [some (.ref 16), some (.int x1), some (.int x2)], [.int ((x1 * (40 : Int32)) + x2), .ref 24], (iq_sh l, I, J, X))) (fun _ => rfl) ?_
          obtain ⟨hc_, h⟩ := iq_itn h
          refine iq_G_pos (c := iq_in ((x1 * (40 : Int32)) + x2) 200) (σ1 := (39, [some (.ref 16), some (.int x1), some (.int x2)], [.int (I 24 (Int32.toNatClampNeg ((x1 * (40 : Int32)) + x2)))], (iq_sh l, I, J, X))) (fun _ => rfl) hc_ ?_
          cases h
          exact iq_G_ret (fun _ => rfl)
        · refine iq_G_neg (c := x2 < (I 18 (Int32.toNatClampNeg x1))) (σ1 := (26, [some (.ref 16), some (.int x1), some (.int x2)], [], (iq_sh l, I, J, X))) (fun _ => rfl) hc_ ?_
          refine iq_G_go (k := 1) (σ' := (27, [some (.ref 16), some (.int x1), some (.int x2)], [.int (-1 : Int32)], (iq_sh l, I, J, X))) (fun _ => rfl) ?_
          cases h
          exact iq_G_ret (fun _ => rfl)
set_option maxRecDepth 100000 in
theorem zU_kindOf_ok (l : Nat)  (x1 : Int32) (I : iq_I) (J : iq_J) (X : iq_X) {q : Int32} (h : zU_kindOf x1 I = some q) : iq_Cc 1 46 [.ref 4, .int x1] (iq_sh l, I, J, X) (.inl (some (.int q)), (iq_sh l, I, J, X)) := by
  refine iq_Cc_of (L := [some (.ref 4), some (.int x1)]) rfl rfl ?_
  unfold zU_kindOf at h
  refine iq_G_go (k := 1) (σ' := (1, [some (.ref 4), some (.int x1)], [.int x1], (iq_sh l, I, J, X))) (fun _ => rfl) ?_
  rcases iq_ite h with ⟨hc_, h⟩ | ⟨hc_, h⟩
  · refine iq_G_pos (c := x1 < 0) (σ1 := (12, [some (.ref 4), some (.int x1)], [], (iq_sh l, I, J, X))) (fun _ => rfl) hc_ ?_
    refine iq_G_go (k := 2) (σ' := (22, [some (.ref 4), some (.int x1)], [.int (-1 : Int32)], (iq_sh l, I, J, X))) (fun _ => rfl) ?_
    cases h
    exact iq_G_ret (fun _ => rfl)
  · refine iq_G_neg (c := x1 < 0) (σ1 := (4, [some (.ref 4), some (.int x1)], [], (iq_sh l, I, J, X))) (fun _ => rfl) hc_ ?_
    refine iq_G_go (k := 3) (σ' := (9, [some (.ref 4), some (.int x1)], [.int (I 4 2), .int x1], (iq_sh l, I, J, X))) (fun _ => rfl) ?_
    rcases iq_ite h with ⟨hc_, h⟩ | ⟨hc_, h⟩
    · refine iq_G_pos (c := x1 < (I 4 2)) (σ1 := (16, [some (.ref 4), some (.int x1)], [], (iq_sh l, I, J, X))) (fun _ => rfl) hc_ ?_
      refine iq_G_go (k := 3) (σ' := (21, [some (.ref 4), some (.int x1)], [.int x1, .ref 6], (iq_sh l, I, J, X))) (fun _ => rfl) ?_
      obtain ⟨hc_, h⟩ := iq_itn h
      refine iq_G_pos (c := iq_in x1 14) (σ1 := (22, [some (.ref 4), some (.int x1)], [.int (I 6 (Int32.toNatClampNeg x1))], (iq_sh l, I, J, X))) (fun _ => rfl) hc_ ?_
      cases h
      exact iq_G_ret (fun _ => rfl)
    · refine iq_G_neg (c := x1 < (I 4 2)) (σ1 := (12, [some (.ref 4), some (.int x1)], [], (iq_sh l, I, J, X))) (fun _ => rfl) hc_ ?_
      refine iq_G_go (k := 2) (σ' := (22, [some (.ref 4), some (.int x1)], [.int (-1 : Int32)], (iq_sh l, I, J, X))) (fun _ => rfl) ?_
      cases h
      exact iq_G_ret (fun _ => rfl)
set_option maxRecDepth 100000 in
theorem zU_priceOf_ok (l : Nat)  (x1 : Int32) (I : iq_I) (J : iq_J) (X : iq_X) {q : Int32} (h : zU_priceOf x1 I = some q) : iq_Cc 1 47 [.ref 4, .int x1] (iq_sh l, I, J, X) (.inl (some (.int q)), (iq_sh l, I, J, X)) := by
  refine iq_Cc_of (L := [some (.ref 4), some (.int x1)]) rfl rfl ?_
  unfold zU_priceOf at h
  refine iq_G_go (k := 1) (σ' := (1, [some (.ref 4), some (.int x1)], [.int x1], (iq_sh l, I, J, X))) (fun _ => rfl) ?_
  rcases iq_ite h with ⟨hc_, h⟩ | ⟨hc_, h⟩
  · refine iq_G_pos (c := x1 < 0) (σ1 := (10, [some (.ref 4), some (.int x1)], [], (iq_sh l, I, J, X))) (fun _ => rfl) hc_ ?_
    refine iq_G_go (k := 2) (σ' := (20, [some (.ref 4), some (.int x1)], [.int (0 : Int32)], (iq_sh l, I, J, X))) (fun _ => rfl) ?_
    cases h
    exact iq_G_ret (fun _ => rfl)
  · refine iq_G_neg (c := x1 < 0) (σ1 := (4, [some (.ref 4), some (.int x1)], [], (iq_sh l, I, J, X))) (fun _ => rfl) hc_ ?_
    refine iq_G_go (k := 2) (σ' := (7, [some (.ref 4), some (.int x1)], [.int (8 : Int32), .int x1], (iq_sh l, I, J, X))) (fun _ => rfl) ?_
    rcases iq_ite h with ⟨hc_, h⟩ | ⟨hc_, h⟩
    · refine iq_G_pos (c := x1 < (8 : Int32)) (σ1 := (14, [some (.ref 4), some (.int x1)], [], (iq_sh l, I, J, X))) (fun _ => rfl) hc_ ?_
      refine iq_G_go (k := 3) (σ' := (19, [some (.ref 4), some (.int x1)], [.int x1, .ref 15], (iq_sh l, I, J, X))) (fun _ => rfl) ?_
      obtain ⟨hc_, h⟩ := iq_itn h
      refine iq_G_pos (c := iq_in x1 8) (σ1 := (20, [some (.ref 4), some (.int x1)], [.int (I 15 (Int32.toNatClampNeg x1))], (iq_sh l, I, J, X))) (fun _ => rfl) hc_ ?_
      cases h
      exact iq_G_ret (fun _ => rfl)
    · refine iq_G_neg (c := x1 < (8 : Int32)) (σ1 := (10, [some (.ref 4), some (.int x1)], [], (iq_sh l, I, J, X))) (fun _ => rfl) hc_ ?_
      refine iq_G_go (k := 2) (σ' := (20, [some (.ref 4), some (.int x1)], [.int (0 : Int32)], (iq_sh l, I, J, X))) (fun _ => rfl) ?_
      cases h
      exact iq_G_ret (fun _ => rfl)
set_option maxRecDepth 100000 in
theorem zO_cost_l9_bok (l : Nat)  (x1 : Int32) (I : iq_I) (J : iq_J) (X : iq_X) (x2 : Int32) (x3 : Int32)  {q : (Int32 × Int32) ⊕ (Int32)} (h : zO_cost_l9_b x1 I X x2 x3 = some q) (r : iq_R × iq_M) (hc : ∀ v, q = .inl v → iq_Gg 1 187 (9, [some (.ref 1), some (.int x1), some (.int v.1), some (.int v.2)], [], (iq_sh l, I, J, X)) r) (hx : ∀ w, q = .inr w → iq_Gg 1 187 (54, [none, none, some (.int w), none], [], (iq_sh l, I, J, X)) r) : iq_Gg 1 187 (9, [some (.ref 1), some (.int x1), some (.int x2), some (.int x3)], [], (iq_sh l, I, J, X)) r := by
  unfold zO_cost_l9_b at h
  refine iq_G_go (k := 5) (σ' := (18, [some (.ref 1), some (.int x1), some (.int x2), some (.int x3)], [.int x1, .ref 18, .int x3], (iq_sh l, I, J, X))) (fun _ => rfl) ?_
  obtain ⟨hc_, h⟩ := iq_itn h
  refine iq_G_pos (c := iq_in x1 5) (σ1 := (19, [some (.ref 1), some (.int x1), some (.int x2), some (.int x3)], [.int (I 18 (Int32.toNatClampNeg x1)), .int x3], (iq_sh l, I, J, X))) (fun _ => rfl) hc_ ?_
  rcases iq_ite h with ⟨hc_, h⟩ | ⟨hc_, h⟩
  · refine iq_G_pos (c := (I 18 (Int32.toNatClampNeg x1)) ≤ x3) (σ1 := (54, [some (.ref 1), some (.int x1), some (.int x2), some (.int x3)], [], (iq_sh l, I, J, X))) (fun _ => rfl) hc_ ?_
    cases h
    exact iq_G_fg (L := [none, none, some (.int x2), none]) (And.intro rfl trivial) (hx x2 rfl)
  · refine iq_G_neg (c := (I 18 (Int32.toNatClampNeg x1)) ≤ x3) (σ1 := (22, [some (.ref 1), some (.int x1), some (.int x2), some (.int x3)], [], (iq_sh l, I, J, X))) (fun _ => rfl) hc_ ?_
    refine iq_G_go (k := 9) (σ' := (37, [some (.ref 1), some (.int x1), some (.int x2), some (.int x3)], [.int x3, .int x1, .ref 16, .ref 4, .ref 4, .int x2], (iq_sh l, I, J, X))) (fun _ => rfl) ?_
    obtain ⟨q4, hq4, h⟩ := iq_bnd h
    refine iq_G_call (σ' := (40, [some (.ref 1), some (.int x1), some (.int x2), some (.int x3)], [.int q4, .ref 4, .ref 4, .int x2], (iq_sh l, I, J, X))) (fun _ => rfl) (zG_wordAt_16_ok l x1 x3 I J X hq4) rfl rfl ?_
    obtain ⟨q5, hq5, h⟩ := iq_bnd h
    refine iq_G_call (σ' := (43, [some (.ref 1), some (.int x1), some (.int x2), some (.int x3)], [.int q5, .ref 4, .int x2], (iq_sh l, I, J, X))) (fun _ => rfl) (zU_kindOf_ok l q4 I J X hq5) rfl rfl ?_
    obtain ⟨q6, hq6, h⟩ := iq_bnd h
    refine iq_G_call (σ' := (46, [some (.ref 1), some (.int x1), some (.int x2), some (.int x3)], [.int q6, .int x2], (iq_sh l, I, J, X))) (fun _ => rfl) (zU_priceOf_ok l q5 I J X hq6) rfl rfl ?_
    refine iq_G_go (k := 4) (σ' := (9, [some (.ref 1), some (.int x1), some (.int (x2 + q6)), some (.int (x3 + (1 : Int32)))], [], (iq_sh l, I, J, X))) (fun _ => rfl) ?_
    cases h
    exact iq_G_fg (L := [some (.ref 1), some (.int x1), some (.int (x2 + q6)), some (.int (x3 + (1 : Int32)))]) (And.intro rfl (And.intro rfl (And.intro rfl (And.intro rfl trivial)))) (hc ((x2 + q6), (x3 + (1 : Int32))) rfl)
set_option maxRecDepth 100000 in
theorem zO_cost_l9_ok (l : Nat)  (x1 : Int32) (I : iq_I) (J : iq_J) (X : iq_X) {n : Nat} {v : Int32 × Int32} {w : Int32} (h : zO_cost_l9 x1 I X n v = some w) (r : iq_R × iq_M) (hq : iq_Gg 1 187 (54, [none, none, some (.int w), none], [], (iq_sh l, I, J, X)) r) : iq_Gg 1 187 (9, [some (.ref 1), some (.int x1), some (.int v.1), some (.int v.2)], [], (iq_sh l, I, J, X)) r :=
  iq_lp_ok (σ := fun v => (9, [some (.ref 1), some (.int x1), some (.int v.1), some (.int v.2)], [], (iq_sh l, I, J, X))) (Q := fun w r => iq_Gg 1 187 (54, [none, none, some (.int w), none], [], (iq_sh l, I, J, X)) r) (fun v q hv r h1 h2 => zO_cost_l9_bok l x1 I J X v.1 v.2 hv r h1 h2) h r hq
set_option maxRecDepth 100000 in
theorem zO_cost_ok (l : Nat)  (x1 : Int32) (I : iq_I) (J : iq_J) (X : iq_X) {q : (Int32 ⊕ Nat) × iq_X} (h : zO_cost x1 I X = some q) : iq_Cc 2 187 [.ref 1, .int x1] (iq_sh l, I, J, X) ((ir_Ri q.1), (iq_sh l, I, J, q.2)) := by
  refine iq_Cc_of (L := [some (.ref 1), some (.int x1), none, none]) rfl rfl ?_
  unfold zO_cost at h
  refine iq_G_go (k := 2) (σ' := (2, [some (.ref 1), some (.int x1), none, none], [.int x1, .ref 1], (iq_sh l, I, J, X))) (fun _ => rfl) ?_
  obtain ⟨q1, hq1, h⟩ := iq_bnd h
  have hC := (zO_needSaying_ok l x1 I J X hq1)
  rcases iq_smc h with ⟨a2, ha, h⟩ | ⟨k3, ha, h⟩
  · rw [ha] at hC
    refine iq_G_call (σ' := (5, [some (.ref 1), some (.int x1), none, none], [], (iq_sh l, I, J, q1.2))) (fun _ => rfl) hC rfl rfl ?_
    refine iq_G_go (k := 4) (σ' := (9, [some (.ref 1), some (.int x1), some (.int (0 : Int32)), some (.int (0 : Int32))], [], (iq_sh l, I, J, q1.2))) (fun _ => rfl) ?_
    obtain ⟨w7, hw7, h⟩ := iq_bnd h
    refine iq_G_fg (L := [some (.ref 1), some (.int x1), some (.int (0 : Int32)), some (.int (0 : Int32))]) (And.intro rfl (And.intro rfl (And.intro rfl (And.intro rfl trivial)))) ?_
    refine zO_cost_l9_ok l x1 I J q1.2 hw7 _ ?_
    show iq_Gg 1 187 (54, [none, none, some (.int w7), none], [], (iq_sh l, I, J, q1.2)) _
    refine iq_G_go (k := 1) (σ' := (55, [none, none, some (.int w7), none], [.int w7], (iq_sh l, I, J, q1.2))) (fun _ => rfl) ?_
    cases h
    exact iq_G_ret (fun _ => rfl)
  · rw [ha] at hC
    cases h
    exact iq_G_callx (fun _ => rfl) hC rfl rfl
set_option maxRecDepth 100000 in
theorem zL_cost_ok (l : Nat)  (x1 : Int32) (I : iq_I) (J : iq_J) (X : iq_X) {q : Int32 × iq_J × iq_X} (h : zL_cost x1 I J X = some q) : iq_Cc 3 356 [.ref 1, .int x1, .ref 114] (iq_sh l, I, J, X) (.inl (some (.int q.1)), (iq_sh l, I, q.2.1, q.2.2)) := by
  refine iq_Cc_of (L := [some (.ref 1), some (.int x1), some (.ref 114), none]) rfl rfl ?_
  unfold zL_cost at h
  refine iq_G_go (k := 4) (σ' := (4, [some (.ref 1), some (.int x1), some (.ref 114), none], [.int x1, .ref 1, .int (0 : Int32), .ref 114], (iq_sh l, I, J, X))) (fun _ => rfl) ?_
  obtain ⟨q1, hq1, h⟩ := iq_bnd h
  have hC := (zO_cost_ok l x1 I J X hq1)
  rcases iq_smc h with ⟨a2, ha, h⟩ | ⟨k3, ha, h⟩
  · rw [ha] at hC
    refine iq_G_call (σ' := (7, [some (.ref 1), some (.int x1), some (.ref 114), none], [.int a2, .int (0 : Int32), .ref 114], (iq_sh l, I, J, q1.2))) (fun _ => rfl) hC rfl rfl ?_
    refine iq_G_go (k := 1) (σ' := (8, [some (.ref 1), some (.int x1), some (.ref 114), none], [.long (Int32.toInt64 a2), .int (0 : Int32), .ref 114], (iq_sh l, I, J, q1.2))) (fun _ => rfl) ?_
    refine iq_G_go (k := 1) (σ' := (9, [some (.ref 1), some (.int x1), some (.ref 114), none], [], (iq_sh l, I, (iq_upJ J 114 0 (Int32.toInt64 a2)), q1.2))) (fun _ => rfl) ?_
    obtain ⟨J4, eJ4, h⟩ := ir_letG h
    rw [← eJ4]
    clear eJ4
    refine iq_G_go (k := 2) (σ' := (16, [some (.ref 1), some (.int x1), some (.ref 114), none], [.int (0 : Int32)], (iq_sh l, I, J4, q1.2))) (fun _ => rfl) ?_
    cases h
    exact iq_G_ret (fun _ => rfl)
  · rw [ha] at hC
    rcases iq_ite h with ⟨e, h⟩ | ⟨_, h⟩
    · subst e
      refine iq_G_call (σ' := (13, [some (.ref 1), some (.int x1), some (.ref 114), none], [], (iq_sh l, I, J, q1.2))) (fun _ => rfl) hC rfl rfl ?_
      refine iq_G_go (k := 1) (σ' := (14, [some (.ref 1), some (.int x1), some (.ref 114), none], [.int (1 : Int32)], (iq_sh l, I, J, q1.2))) (fun _ => rfl) ?_
      cases h
      exact iq_G_ret (fun _ => rfl)
    · obtain ⟨e, h⟩ := iq_itn h
      cases h
set_option maxRecDepth 100000 in
theorem zM_right_16_ok (l : Nat)   (I : iq_I) (J : iq_J) (X : iq_X)  {q : Int32 × iq_I} (h : zM_right_16 I = some q)  : iq_Gg 0 201 (16, [some (.ref 76), none, none], [], (iq_sh l, I, J, X)) (.inl (some (.int q.1)), (iq_sh l, q.2, J, X)) := by
  unfold zM_right_16 at h
  refine iq_G_go (k := 2) (σ' := (20, [some (.ref 76), none, none], [.int (I 76 0)], (iq_sh l, I, J, X))) (fun _ => rfl) ?_
  rcases iq_ite h with ⟨hc_, h⟩ | ⟨hc_, h⟩
  · refine iq_G_pos (c := ¬ (I 76 0) = 0) (σ1 := (27, [some (.ref 76), none, none], [], (iq_sh l, I, J, X))) (fun _ => rfl) hc_ ?_
    refine iq_G_go (k := 1) (σ' := (28, [some (.ref 76), none, none], [.int (0 : Int32)], (iq_sh l, I, J, X))) (fun _ => rfl) ?_
    cases h
    exact iq_G_ret (fun _ => rfl)
  · refine iq_G_neg (c := ¬ (I 76 0) = 0) (σ1 := (23, [some (.ref 76), none, none], [], (iq_sh l, I, J, X))) (fun _ => rfl) hc_ ?_
    refine iq_G_go (k := 2) (σ' := (28, [some (.ref 76), none, none], [.int (1 : Int32)], (iq_sh l, I, J, X))) (fun _ => rfl) ?_
    cases h
    exact iq_G_ret (fun _ => rfl)
set_option maxRecDepth 100000 in
theorem zM_right_ok (l : Nat)  (x1 : Int32) (x2 : Int32) (I : iq_I) (J : iq_J) (X : iq_X) {q : Int32 × iq_I} (h : zM_right x1 x2 I = some q) : iq_Cc 1 201 [.ref 76, .int x1, .int x2] (iq_sh l, I, J, X) (.inl (some (.int q.1)), (iq_sh l, q.2, J, X)) := by
  refine iq_Cc_of (L := [some (.ref 76), some (.int x1), some (.int x2)]) rfl rfl ?_
  unfold zM_right at h
  refine iq_G_go (k := 2) (σ' := (4, [some (.ref 76), some (.int x1), some (.int x2)], [.int (I 76 0)], (iq_sh l, I, J, X))) (fun _ => rfl) ?_
  rcases iq_ite h with ⟨hc_, h⟩ | ⟨hc_, h⟩
  · refine iq_G_pos (c := ¬ (I 76 0) = 0) (σ1 := (16, [some (.ref 76), some (.int x1), some (.int x2)], [], (iq_sh l, I, J, X))) (fun _ => rfl) hc_ ?_
    exact iq_G_fg (L := [some (.ref 76), none, none]) (And.intro rfl trivial) (zM_right_16_ok l I J X  h )
  · refine iq_G_neg (c := ¬ (I 76 0) = 0) (σ1 := (7, [some (.ref 76), some (.int x1), some (.int x2)], [], (iq_sh l, I, J, X))) (fun _ => rfl) hc_ ?_
    refine iq_G_go (k := 1) (σ' := (8, [some (.ref 76), some (.int x1), some (.int x2)], [.int x1], (iq_sh l, I, J, X))) (fun _ => rfl) ?_
    rcases iq_ite h with ⟨hc_, h⟩ | ⟨hc_, h⟩
    · refine iq_G_pos (c := ¬ x1 = 0) (σ1 := (16, [some (.ref 76), some (.int x1), some (.int x2)], [], (iq_sh l, I, J, X))) (fun _ => rfl) hc_ ?_
      exact iq_G_fg (L := [some (.ref 76), none, none]) (And.intro rfl trivial) (zM_right_16_ok l I J X  h )
    · refine iq_G_neg (c := ¬ x1 = 0) (σ1 := (11, [some (.ref 76), some (.int x1), some (.int x2)], [], (iq_sh l, I, J, X))) (fun _ => rfl) hc_ ?_
      refine iq_G_go (k := 2) (σ' := (13, [some (.ref 76), some (.int x1), some (.int x2)], [.int x2, .ref 76], (iq_sh l, I, J, X))) (fun _ => rfl) ?_
      refine iq_G_go (k := 1) (σ' := (16, [some (.ref 76), some (.int x1), some (.int x2)], [], (iq_sh l, (iq_upI I 76 0 x2), J, X))) (fun _ => rfl) ?_
      obtain ⟨I1, eI1, h⟩ := ir_letG h
      rw [← eI1]
      clear eI1
      exact iq_G_fg (L := [some (.ref 76), none, none]) (And.intro rfl trivial) (zM_right_16_ok l I1 J X  h )
set_option maxRecDepth 100000 in
theorem zM_isSaying_18_ok (l : Nat)  (s1 : Int32) (I : iq_I) (J : iq_J) (X : iq_X)  {q : Int32 × iq_I} (h : zM_isSaying_18 s1 I = some q)  : iq_Gg 1 252 (18, [none, none], [.int s1, .ref 76], (iq_sh l, I, J, X)) (.inl (some (.int q.1)), (iq_sh l, q.2, J, X)) := by
  unfold zM_isSaying_18 at h
  refine iq_G_go (k := 1) (σ' := (19, [none, none], [.int (1 : Int32), .int s1, .ref 76], (iq_sh l, I, J, X))) (fun _ => rfl) ?_
  obtain ⟨q1, hq1, h⟩ := iq_bnd h
  refine iq_G_call (σ' := (22, [none, none], [.int q1.1], (iq_sh l, q1.2, J, X))) (fun _ => rfl) (zM_right_ok l s1 (1 : Int32) I J X hq1) rfl rfl ?_
  obtain ⟨hc_, h⟩ := iq_itn h
  have h := Option.some.inj h
  subst h
  exact iq_G_rif (c := q1.1 = 0 ∨ q1.1 = 1) (fun _ => rfl) hc_
set_option maxRecDepth 100000 in
theorem zM_isSaying_17_ok (l : Nat)   (I : iq_I) (J : iq_J) (X : iq_X)  {q : Int32 × iq_I} (h : zM_isSaying_17 I = some q)  : iq_Gg 1 252 (17, [none, none], [.ref 76], (iq_sh l, I, J, X)) (.inl (some (.int q.1)), (iq_sh l, q.2, J, X)) := by
  unfold zM_isSaying_17 at h
  refine iq_G_go (k := 1) (σ' := (18, [none, none], [.int (0 : Int32), .ref 76], (iq_sh l, I, J, X))) (fun _ => rfl) ?_
  exact iq_G_fg (L := [none, none]) trivial (zM_isSaying_18_ok l (0 : Int32) I J X  h )
set_option maxRecDepth 100000 in
theorem zM_isSaying_ok (l : Nat)  (x1 : Int32) (I : iq_I) (J : iq_J) (X : iq_X) {q : Int32 × iq_I} (h : zM_isSaying x1 I = some q) : iq_Cc 2 252 [.ref 76, .int x1] (iq_sh l, I, J, X) (.inl (some (.int q.1)), (iq_sh l, q.2, J, X)) := by
  refine iq_Cc_of (L := [some (.ref 76), some (.int x1)]) rfl rfl ?_
  unfold zM_isSaying at h
  refine iq_G_go (k := 2) (σ' := (2, [some (.ref 76), some (.int x1)], [.int x1, .ref 76], (iq_sh l, I, J, X))) (fun _ => rfl) ?_
  rcases iq_ite h with ⟨hc_, h⟩ | ⟨hc_, h⟩
  · refine iq_G_pos (c := x1 < 0) (σ1 := (17, [some (.ref 76), some (.int x1)], [.ref 76], (iq_sh l, I, J, X))) (fun _ => rfl) hc_ ?_
    exact iq_G_fg (L := [none, none]) trivial (zM_isSaying_17_ok l I J X  h )
  · refine iq_G_neg (c := x1 < 0) (σ1 := (5, [some (.ref 76), some (.int x1)], [.ref 76], (iq_sh l, I, J, X))) (fun _ => rfl) hc_ ?_
    refine iq_G_go (k := 3) (σ' := (10, [some (.ref 76), some (.int x1)], [.int (I 76 5), .int x1, .ref 76], (iq_sh l, I, J, X))) (fun _ => rfl) ?_
    rcases iq_ite h with ⟨hc_, h⟩ | ⟨hc_, h⟩
    · refine iq_G_pos (c := (I 76 5) ≤ x1) (σ1 := (17, [some (.ref 76), some (.int x1)], [.ref 76], (iq_sh l, I, J, X))) (fun _ => rfl) hc_ ?_
      exact iq_G_fg (L := [none, none]) trivial (zM_isSaying_17_ok l I J X  h )
    · refine iq_G_neg (c := (I 76 5) ≤ x1) (σ1 := (13, [some (.ref 76), some (.int x1)], [.ref 76], (iq_sh l, I, J, X))) (fun _ => rfl) hc_ ?_
      refine iq_G_go (k := 2) (σ' := (18, [some (.ref 76), some (.int x1)], [.int (1 : Int32), .ref 76], (iq_sh l, I, J, X))) (fun _ => rfl) ?_
      exact iq_G_fg (L := [none, none]) trivial (zM_isSaying_18_ok l (1 : Int32) I J X  h )
set_option maxRecDepth 100000 in
theorem zM_wordAt_76_98_ok (l : Nat)  (x2 : Int32) (x3 : Int32) (I : iq_I) (J : iq_J) (X : iq_X) {q : Int32} (h : zM_wordAt_76_98 x2 x3 I = some q) : iq_Cc 1 243 [.ref 76, .ref 98, .int x2, .int x3] (iq_sh l, I, J, X) (.inl (some (.int q)), (iq_sh l, I, J, X)) := by
  refine iq_Cc_of (L := [some (.ref 76), some (.ref 98), some (.int x2), some (.int x3)]) rfl rfl ?_
  unfold zM_wordAt_76_98 at h
  refine iq_G_go (k := 8) (σ' := (10, [some (.ref 76), some (.ref 98), some (.int x2), some (.int x3)], [.int (((6 : Int32) + ((40 : Int32) * x2)) + x3), .ref 98], (iq_sh l, I, J, X))) (fun _ => rfl) ?_
  obtain ⟨hc_, h⟩ := iq_itn h
  refine iq_G_pos (c := iq_in (((6 : Int32) + ((40 : Int32) * x2)) + x3) 206) (σ1 := (11, [some (.ref 76), some (.ref 98), some (.int x2), some (.int x3)], [.int (I 98 (Int32.toNatClampNeg (((6 : Int32) + ((40 : Int32) * x2)) + x3)))], (iq_sh l, I, J, X))) (fun _ => rfl) hc_ ?_
  cases h
  exact iq_G_ret (fun _ => rfl)
set_option maxRecDepth 100000 in
theorem zM_cost_l19_bok (l : Nat)  (x1 : Int32) (I : iq_I) (J : iq_J) (X : iq_X) (x2 : Int32) (x3 : Int32)  {q : (Int32 × Int32) ⊕ (Int32)} (h : zM_cost_l19_b x1 I x2 x3 = some q) (r : iq_R × iq_M) (hc : ∀ v, q = .inl v → iq_Gg 2 306 (19, [some (.ref 76), some (.int x1), some (.int v.1), some (.int v.2)], [], (iq_sh l, I, J, X)) r) (hx : ∀ w, q = .inr w → iq_Gg 2 306 (58, [none, none, some (.int w), none], [], (iq_sh l, I, J, X)) r) : iq_Gg 2 306 (19, [some (.ref 76), some (.int x1), some (.int x2), some (.int x3)], [], (iq_sh l, I, J, X)) r := by
  unfold zM_cost_l19_b at h
  refine iq_G_go (k := 4) (σ' := (25, [some (.ref 76), some (.int x1), some (.int x2), some (.int x3)], [.int x1, .ref 98, .int x3], (iq_sh l, I, J, X))) (fun _ => rfl) ?_
  obtain ⟨hc_, h⟩ := iq_itn h
  refine iq_G_pos (c := iq_in x1 206) (σ1 := (26, [some (.ref 76), some (.int x1), some (.int x2), some (.int x3)], [.int (I 98 (Int32.toNatClampNeg x1)), .int x3], (iq_sh l, I, J, X))) (fun _ => rfl) hc_ ?_
  rcases iq_ite h with ⟨hc_, h⟩ | ⟨hc_, h⟩
  · refine iq_G_pos (c := (I 98 (Int32.toNatClampNeg x1)) ≤ x3) (σ1 := (58, [some (.ref 76), some (.int x1), some (.int x2), some (.int x3)], [], (iq_sh l, I, J, X))) (fun _ => rfl) hc_ ?_
    cases h
    exact iq_G_fg (L := [none, none, some (.int x2), none]) (And.intro rfl trivial) (hx x2 rfl)
  · refine iq_G_neg (c := (I 98 (Int32.toNatClampNeg x1)) ≤ x3) (σ1 := (29, [some (.ref 76), some (.int x1), some (.int x2), some (.int x3)], [], (iq_sh l, I, J, X))) (fun _ => rfl) hc_ ?_
    refine iq_G_go (k := 10) (σ' := (45, [some (.ref 76), some (.int x1), some (.int x2), some (.int x3)], [.int x3, .int x1, .ref 98, .ref 76, .ref 79, .ref 81, .int x2], (iq_sh l, I, J, X))) (fun _ => rfl) ?_
    obtain ⟨q3, hq3, h⟩ := iq_bnd h
    refine iq_G_call (σ' := (48, [some (.ref 76), some (.int x1), some (.int x2), some (.int x3)], [.int q3, .ref 79, .ref 81, .int x2], (iq_sh l, I, J, X))) (fun _ => rfl) (zM_wordAt_76_98_ok l x1 x3 I J X hq3) rfl rfl ?_
    obtain ⟨hc_, h⟩ := iq_itn h
    refine iq_G_pos (c := iq_in q3 14) (σ1 := (49, [some (.ref 76), some (.int x1), some (.int x2), some (.int x3)], [.int (I 79 (Int32.toNatClampNeg q3)), .ref 81, .int x2], (iq_sh l, I, J, X))) (fun _ => rfl) hc_ ?_
    obtain ⟨hc_, h⟩ := iq_itn h
    refine iq_G_pos (c := iq_in (I 79 (Int32.toNatClampNeg q3)) 8) (σ1 := (50, [some (.ref 76), some (.int x1), some (.int x2), some (.int x3)], [.int (I 81 (Int32.toNatClampNeg (I 79 (Int32.toNatClampNeg q3)))), .int x2], (iq_sh l, I, J, X))) (fun _ => rfl) hc_ ?_
    refine iq_G_go (k := 4) (σ' := (19, [some (.ref 76), some (.int x1), some (.int (x2 + (I 81 (Int32.toNatClampNeg (I 79 (Int32.toNatClampNeg q3)))))), some (.int (x3 + (1 : Int32)))], [], (iq_sh l, I, J, X))) (fun _ => rfl) ?_
    cases h
    exact iq_G_fg (L := [some (.ref 76), some (.int x1), some (.int (x2 + (I 81 (Int32.toNatClampNeg (I 79 (Int32.toNatClampNeg q3)))))), some (.int (x3 + (1 : Int32)))]) (And.intro rfl (And.intro rfl (And.intro rfl (And.intro rfl trivial)))) (hc ((x2 + (I 81 (Int32.toNatClampNeg (I 79 (Int32.toNatClampNeg q3))))), (x3 + (1 : Int32))) rfl)
set_option maxRecDepth 100000 in
theorem zM_cost_l19_ok (l : Nat)  (x1 : Int32) (I : iq_I) (J : iq_J) (X : iq_X) {n : Nat} {v : Int32 × Int32} {w : Int32} (h : zM_cost_l19 x1 I n v = some w) (r : iq_R × iq_M) (hq : iq_Gg 2 306 (58, [none, none, some (.int w), none], [], (iq_sh l, I, J, X)) r) : iq_Gg 2 306 (19, [some (.ref 76), some (.int x1), some (.int v.1), some (.int v.2)], [], (iq_sh l, I, J, X)) r :=
  iq_lp_ok (σ := fun v => (19, [some (.ref 76), some (.int x1), some (.int v.1), some (.int v.2)], [], (iq_sh l, I, J, X))) (Q := fun w r => iq_Gg 2 306 (58, [none, none, some (.int w), none], [], (iq_sh l, I, J, X)) r) (fun v q hv r h1 h2 => zM_cost_l19_bok l x1 I J X v.1 v.2 hv r h1 h2) h r hq
set_option maxRecDepth 100000 in
theorem zM_cost_ok (l : Nat)  (x1 : Int32) (I : iq_I) (J : iq_J) (X : iq_X) {q : Int32 × iq_I} (h : zM_cost x1 I = some q) : iq_Cc 3 306 [.ref 76, .int x1] (iq_sh l, I, J, X) (.inl (some (.int q.1)), (iq_sh l, q.2, J, X)) := by
  refine iq_Cc_of (L := [some (.ref 76), some (.int x1), none, none]) rfl rfl ?_
  unfold zM_cost at h
  refine iq_G_go (k := 2) (σ' := (2, [some (.ref 76), some (.int x1), none, none], [.int (0 : Int32), .ref 76], (iq_sh l, I, J, X))) (fun _ => rfl) ?_
  refine iq_G_go (k := 1) (σ' := (5, [some (.ref 76), some (.int x1), none, none], [], (iq_sh l, (iq_upI I 76 0 (0 : Int32)), J, X))) (fun _ => rfl) ?_
  obtain ⟨I1, eI1, h⟩ := ir_letG h
  rw [← eI1]
  clear eI1
  refine iq_G_go (k := 2) (σ' := (7, [some (.ref 76), some (.int x1), none, none], [.int x1, .ref 76], (iq_sh l, I1, J, X))) (fun _ => rfl) ?_
  obtain ⟨q2, hq2, h⟩ := iq_bnd h
  refine iq_G_call (σ' := (10, [some (.ref 76), some (.int x1), none, none], [.int q2.1], (iq_sh l, q2.2, J, X))) (fun _ => rfl) (zM_isSaying_ok l x1 I1 J X hq2) rfl rfl ?_
  rcases iq_ite h with ⟨hc_, h⟩ | ⟨hc_, h⟩
  · refine iq_G_pos (c := ¬ q2.1 = 0) (σ1 := (15, [some (.ref 76), some (.int x1), none, none], [], (iq_sh l, q2.2, J, X))) (fun _ => rfl) hc_ ?_
    refine iq_G_go (k := 4) (σ' := (19, [some (.ref 76), some (.int x1), some (.int (0 : Int32)), some (.int (0 : Int32))], [], (iq_sh l, q2.2, J, X))) (fun _ => rfl) ?_
    obtain ⟨w4, hw4, h⟩ := iq_bnd h
    refine iq_G_fg (L := [some (.ref 76), some (.int x1), some (.int (0 : Int32)), some (.int (0 : Int32))]) (And.intro rfl (And.intro rfl (And.intro rfl (And.intro rfl trivial)))) ?_
    refine zM_cost_l19_ok l x1 q2.2 J X hw4 _ ?_
    show iq_Gg 2 306 (58, [none, none, some (.int w4), none], [], (iq_sh l, q2.2, J, X)) _
    refine iq_G_go (k := 1) (σ' := (59, [none, none, some (.int w4), none], [.int w4], (iq_sh l, q2.2, J, X))) (fun _ => rfl) ?_
    cases h
    exact iq_G_ret (fun _ => rfl)
  · refine iq_G_neg (c := ¬ q2.1 = 0) (σ1 := (13, [some (.ref 76), some (.int x1), none, none], [], (iq_sh l, q2.2, J, X))) (fun _ => rfl) hc_ ?_
    refine iq_G_go (k := 1) (σ' := (14, [some (.ref 76), some (.int x1), none, none], [.int (0 : Int32)], (iq_sh l, q2.2, J, X))) (fun _ => rfl) ?_
    cases h
    exact iq_G_ret (fun _ => rfl)
set_option maxRecDepth 100000 in
theorem zM_thrown_ok (l : Nat)   (I : iq_I) (J : iq_J) (X : iq_X) {q : Int32} (h : zM_thrown I = some q) : iq_Cc 1 200 [.ref 76] (iq_sh l, I, J, X) (.inl (some (.int q)), (iq_sh l, I, J, X)) := by
  refine iq_Cc_of (L := [some (.ref 76)]) rfl rfl ?_
  unfold zM_thrown at h
  refine iq_G_go (k := 2) (σ' := (4, [some (.ref 76)], [.int (I 76 0)], (iq_sh l, I, J, X))) (fun _ => rfl) ?_
  cases h
  exact iq_G_ret (fun _ => rfl)
set_option maxRecDepth 100000 in
theorem zO_needKind_10_ok (l : Nat)   (I : iq_I) (J : iq_J) (X : iq_X)  {q : (Unit ⊕ Nat) × iq_X} (h : zO_needKind_10 I X = some q)  : iq_Gg 0 194 (10, [none, none], [], (iq_sh l, I, J, X)) ((ir_Rv q.1), (iq_sh l, I, J, q.2)) := by
  unfold zO_needKind_10 at h
  cases h
  exact iq_G_ret (fun _ => rfl)
set_option maxRecDepth 100000 in
theorem zO_needKind_ok (l : Nat)  (x1 : Int32) (I : iq_I) (J : iq_J) (X : iq_X) {q : (Unit ⊕ Nat) × iq_X} (h : zO_needKind x1 I X = some q) : iq_Cc 1 194 [.ref 1, .int x1] (iq_sh l, I, J, X) ((ir_Rv q.1), (iq_sh l, I, J, q.2)) := by
  refine iq_Cc_of (L := [some (.ref 1), some (.int x1)]) rfl rfl ?_
  unfold zO_needKind at h
  refine iq_G_go (k := 1) (σ' := (1, [some (.ref 1), some (.int x1)], [.int x1], (iq_sh l, I, J, X))) (fun _ => rfl) ?_
  rcases iq_ite h with ⟨hc_, h⟩ | ⟨hc_, h⟩
  · refine iq_G_pos (c := x1 < 0) (σ1 := (10, [some (.ref 1), some (.int x1)], [], (iq_sh l, I, J, X))) (fun _ => rfl) hc_ ?_
    exact iq_G_fg (L := [none, none]) trivial (zO_needKind_10_ok l I J X  h )
  · refine iq_G_neg (c := x1 < 0) (σ1 := (4, [some (.ref 1), some (.int x1)], [], (iq_sh l, I, J, X))) (fun _ => rfl) hc_ ?_
    refine iq_G_go (k := 2) (σ' := (7, [some (.ref 1), some (.int x1)], [.int (8 : Int32), .int x1], (iq_sh l, I, J, X))) (fun _ => rfl) ?_
    rcases iq_ite h with ⟨hc_, h⟩ | ⟨hc_, h⟩
    · refine iq_G_pos (c := x1 < (8 : Int32)) (σ1 := (21, [some (.ref 1), some (.int x1)], [], (iq_sh l, I, J, X))) (fun _ => rfl) hc_ ?_
      cases h
      exact iq_G_ret (fun _ => rfl)
    · refine iq_G_neg (c := x1 < (8 : Int32)) (σ1 := (10, [some (.ref 1), some (.int x1)], [], (iq_sh l, I, J, X))) (fun _ => rfl) hc_ ?_
      exact iq_G_fg (L := [none, none]) trivial (zO_needKind_10_ok l I J X  h )
set_option maxRecDepth 100000 in
theorem zO_often_l15_bok (l : Nat)  (x1 : Int32) (x2 : Int32) (I : iq_I) (J : iq_J) (X : iq_X) (x3 : Int32) (x4 : Int32)  {q : (Int32 × Int32) ⊕ (Int32)} (h : zO_often_l15_b x1 x2 I X x3 x4 = some q) (r : iq_R × iq_M) (hc : ∀ v, q = .inl v → iq_Gg 1 186 (15, [some (.ref 1), some (.int x1), some (.int x2), some (.int v.1), some (.int v.2)], [], (iq_sh l, I, J, X)) r) (hx : ∀ w, q = .inr w → iq_Gg 1 186 (59, [none, none, none, some (.int w), none], [], (iq_sh l, I, J, X)) r) : iq_Gg 1 186 (15, [some (.ref 1), some (.int x1), some (.int x2), some (.int x3), some (.int x4)], [], (iq_sh l, I, J, X)) r := by
  unfold zO_often_l15_b at h
  refine iq_G_go (k := 5) (σ' := (25, [some (.ref 1), some (.int x1), some (.int x2), some (.int x3), some (.int x4)], [.int x1, .ref 18, .int x4], (iq_sh l, I, J, X))) (fun _ => rfl) ?_
  obtain ⟨hc_, h⟩ := iq_itn h
  refine iq_G_pos (c := iq_in x1 5) (σ1 := (26, [some (.ref 1), some (.int x1), some (.int x2), some (.int x3), some (.int x4)], [.int (I 18 (Int32.toNatClampNeg x1)), .int x4], (iq_sh l, I, J, X))) (fun _ => rfl) hc_ ?_
  rcases iq_ite h with ⟨hc_, h⟩ | ⟨hc_, h⟩
  · refine iq_G_pos (c := (I 18 (Int32.toNatClampNeg x1)) ≤ x4) (σ1 := (59, [some (.ref 1), some (.int x1), some (.int x2), some (.int x3), some (.int x4)], [], (iq_sh l, I, J, X))) (fun _ => rfl) hc_ ?_
    cases h
    exact iq_G_fg (L := [none, none, none, some (.int x3), none]) (And.intro rfl trivial) (hx x3 rfl)
  · refine iq_G_neg (c := (I 18 (Int32.toNatClampNeg x1)) ≤ x4) (σ1 := (29, [some (.ref 1), some (.int x1), some (.int x2), some (.int x3), some (.int x4)], [], (iq_sh l, I, J, X))) (fun _ => rfl) hc_ ?_
    refine iq_G_go (k := 6) (σ' := (40, [some (.ref 1), some (.int x1), some (.int x2), some (.int x3), some (.int x4)], [.int x4, .int x1, .ref 16, .ref 4], (iq_sh l, I, J, X))) (fun _ => rfl) ?_
    obtain ⟨q7, hq7, h⟩ := iq_bnd h
    refine iq_G_call (σ' := (43, [some (.ref 1), some (.int x1), some (.int x2), some (.int x3), some (.int x4)], [.int q7, .ref 4], (iq_sh l, I, J, X))) (fun _ => rfl) (zG_wordAt_16_ok l x1 x4 I J X hq7) rfl rfl ?_
    obtain ⟨q8, hq8, h⟩ := iq_bnd h
    refine iq_G_call (σ' := (46, [some (.ref 1), some (.int x1), some (.int x2), some (.int x3), some (.int x4)], [.int q8], (iq_sh l, I, J, X))) (fun _ => rfl) (zU_kindOf_ok l q7 I J X hq8) rfl rfl ?_
    refine iq_G_go (k := 1) (σ' := (47, [some (.ref 1), some (.int x1), some (.int x2), some (.int x3), some (.int x4)], [.int x2, .int q8], (iq_sh l, I, J, X))) (fun _ => rfl) ?_
    rcases iq_ite h with ⟨hc_, h⟩ | ⟨hc_, h⟩
    · refine iq_G_pos (c := ¬ q8 = x2) (σ1 := (53, [some (.ref 1), some (.int x1), some (.int x2), some (.int x3), some (.int x4)], [], (iq_sh l, I, J, X))) (fun _ => rfl) hc_ ?_
      refine iq_G_go (k := 2) (σ' := (15, [some (.ref 1), some (.int x1), some (.int x2), some (.int x3), some (.int (x4 + (1 : Int32)))], [], (iq_sh l, I, J, X))) (fun _ => rfl) ?_
      cases h
      exact iq_G_fg (L := [some (.ref 1), some (.int x1), some (.int x2), some (.int x3), some (.int (x4 + (1 : Int32)))]) (And.intro rfl (And.intro rfl (And.intro rfl (And.intro rfl (And.intro rfl trivial))))) (hc (x3, (x4 + (1 : Int32))) rfl)
    · refine iq_G_neg (c := ¬ q8 = x2) (σ1 := (50, [some (.ref 1), some (.int x1), some (.int x2), some (.int x3), some (.int x4)], [], (iq_sh l, I, J, X))) (fun _ => rfl) hc_ ?_
      refine iq_G_go (k := 3) (σ' := (15, [some (.ref 1), some (.int x1), some (.int x2), some (.int (x3 + (1 : Int32))), some (.int (x4 + (1 : Int32)))], [], (iq_sh l, I, J, X))) (fun _ => rfl) ?_
      cases h
      exact iq_G_fg (L := [some (.ref 1), some (.int x1), some (.int x2), some (.int (x3 + (1 : Int32))), some (.int (x4 + (1 : Int32)))]) (And.intro rfl (And.intro rfl (And.intro rfl (And.intro rfl (And.intro rfl trivial))))) (hc ((x3 + (1 : Int32)), (x4 + (1 : Int32))) rfl)
set_option maxRecDepth 100000 in
theorem zO_often_l15_ok (l : Nat)  (x1 : Int32) (x2 : Int32) (I : iq_I) (J : iq_J) (X : iq_X) {n : Nat} {v : Int32 × Int32} {w : Int32} (h : zO_often_l15 x1 x2 I X n v = some w) (r : iq_R × iq_M) (hq : iq_Gg 1 186 (59, [none, none, none, some (.int w), none], [], (iq_sh l, I, J, X)) r) : iq_Gg 1 186 (15, [some (.ref 1), some (.int x1), some (.int x2), some (.int v.1), some (.int v.2)], [], (iq_sh l, I, J, X)) r :=
  iq_lp_ok (σ := fun v => (15, [some (.ref 1), some (.int x1), some (.int x2), some (.int v.1), some (.int v.2)], [], (iq_sh l, I, J, X))) (Q := fun w r => iq_Gg 1 186 (59, [none, none, none, some (.int w), none], [], (iq_sh l, I, J, X)) r) (fun v q hv r h1 h2 => zO_often_l15_bok l x1 x2 I J X v.1 v.2 hv r h1 h2) h r hq
set_option maxRecDepth 100000 in
theorem zO_often_ok (l : Nat)  (x1 : Int32) (x2 : Int32) (I : iq_I) (J : iq_J) (X : iq_X) {q : (Int32 ⊕ Nat) × iq_X} (h : zO_often x1 x2 I X = some q) : iq_Cc 2 186 [.ref 1, .int x1, .int x2] (iq_sh l, I, J, X) ((ir_Ri q.1), (iq_sh l, I, J, q.2)) := by
  refine iq_Cc_of (L := [some (.ref 1), some (.int x1), some (.int x2), none, none]) rfl rfl ?_
  unfold zO_often at h
  refine iq_G_go (k := 2) (σ' := (2, [some (.ref 1), some (.int x1), some (.int x2), none, none], [.int x1, .ref 1], (iq_sh l, I, J, X))) (fun _ => rfl) ?_
  obtain ⟨q1, hq1, h⟩ := iq_bnd h
  have hC := (zO_needSaying_ok l x1 I J X hq1)
  rcases iq_smc h with ⟨a2, ha, h⟩ | ⟨k3, ha, h⟩
  · rw [ha] at hC
    refine iq_G_call (σ' := (5, [some (.ref 1), some (.int x1), some (.int x2), none, none], [], (iq_sh l, I, J, q1.2))) (fun _ => rfl) hC rfl rfl ?_
    refine iq_G_go (k := 2) (σ' := (7, [some (.ref 1), some (.int x1), some (.int x2), none, none], [.int x2, .ref 1], (iq_sh l, I, J, q1.2))) (fun _ => rfl) ?_
    obtain ⟨q4, hq4, h⟩ := iq_bnd h
    have hC := (zO_needKind_ok l x2 I J q1.2 hq4)
    rcases iq_smc h with ⟨a5, ha, h⟩ | ⟨k6, ha, h⟩
    · rw [ha] at hC
      refine iq_G_call (σ' := (10, [some (.ref 1), some (.int x1), some (.int x2), none, none], [], (iq_sh l, I, J, q4.2))) (fun _ => rfl) hC rfl rfl ?_
      refine iq_G_go (k := 4) (σ' := (15, [some (.ref 1), some (.int x1), some (.int x2), some (.int (0 : Int32)), some (.int (0 : Int32))], [], (iq_sh l, I, J, q4.2))) (fun _ => rfl) ?_
      obtain ⟨w9, hw9, h⟩ := iq_bnd h
      refine iq_G_fg (L := [some (.ref 1), some (.int x1), some (.int x2), some (.int (0 : Int32)), some (.int (0 : Int32))]) (And.intro rfl (And.intro rfl (And.intro rfl (And.intro rfl (And.intro rfl trivial))))) ?_
      refine zO_often_l15_ok l x1 x2 I J q4.2 hw9 _ ?_
      show iq_Gg 1 186 (59, [none, none, none, some (.int w9), none], [], (iq_sh l, I, J, q4.2)) _
      refine iq_G_go (k := 1) (σ' := (60, [none, none, none, some (.int w9), none], [.int w9], (iq_sh l, I, J, q4.2))) (fun _ => rfl) ?_
      cases h
      exact iq_G_ret (fun _ => rfl)
    · rw [ha] at hC
      cases h
      exact iq_G_callx (fun _ => rfl) hC rfl rfl
  · rw [ha] at hC
    cases h
    exact iq_G_callx (fun _ => rfl) hC rfl rfl
set_option maxRecDepth 100000 in
theorem zL_often_ok (l : Nat)  (x1 : Int32) (x2 : Int32) (I : iq_I) (J : iq_J) (X : iq_X) {q : Int32 × iq_J × iq_X} (h : zL_often x1 x2 I J X = some q) : iq_Cc 3 355 [.ref 1, .int x1, .int x2, .ref 114] (iq_sh l, I, J, X) (.inl (some (.int q.1)), (iq_sh l, I, q.2.1, q.2.2)) := by
  refine iq_Cc_of (L := [some (.ref 1), some (.int x1), some (.int x2), some (.ref 114), none]) rfl rfl ?_
  unfold zL_often at h
  refine iq_G_go (k := 5) (σ' := (5, [some (.ref 1), some (.int x1), some (.int x2), some (.ref 114), none], [.int x2, .int x1, .ref 1, .int (0 : Int32), .ref 114], (iq_sh l, I, J, X))) (fun _ => rfl) ?_
  obtain ⟨q1, hq1, h⟩ := iq_bnd h
  have hC := (zO_often_ok l x1 x2 I J X hq1)
  rcases iq_smc h with ⟨a2, ha, h⟩ | ⟨k3, ha, h⟩
  · rw [ha] at hC
    refine iq_G_call (σ' := (8, [some (.ref 1), some (.int x1), some (.int x2), some (.ref 114), none], [.int a2, .int (0 : Int32), .ref 114], (iq_sh l, I, J, q1.2))) (fun _ => rfl) hC rfl rfl ?_
    refine iq_G_go (k := 1) (σ' := (9, [some (.ref 1), some (.int x1), some (.int x2), some (.ref 114), none], [.long (Int32.toInt64 a2), .int (0 : Int32), .ref 114], (iq_sh l, I, J, q1.2))) (fun _ => rfl) ?_
    refine iq_G_go (k := 1) (σ' := (10, [some (.ref 1), some (.int x1), some (.int x2), some (.ref 114), none], [], (iq_sh l, I, (iq_upJ J 114 0 (Int32.toInt64 a2)), q1.2))) (fun _ => rfl) ?_
    obtain ⟨J4, eJ4, h⟩ := ir_letG h
    rw [← eJ4]
    clear eJ4
    refine iq_G_go (k := 2) (σ' := (18, [some (.ref 1), some (.int x1), some (.int x2), some (.ref 114), none], [.int (0 : Int32)], (iq_sh l, I, J4, q1.2))) (fun _ => rfl) ?_
    cases h
    exact iq_G_ret (fun _ => rfl)
  · rw [ha] at hC
    rcases iq_ite h with ⟨e, h⟩ | ⟨_, h⟩
    · subst e
      refine iq_G_call (σ' := (15, [some (.ref 1), some (.int x1), some (.int x2), some (.ref 114), none], [], (iq_sh l, I, J, q1.2))) (fun _ => rfl) hC rfl rfl ?_
      refine iq_G_go (k := 1) (σ' := (16, [some (.ref 1), some (.int x1), some (.int x2), some (.ref 114), none], [.int (1 : Int32)], (iq_sh l, I, J, q1.2))) (fun _ => rfl) ?_
      cases h
      exact iq_G_ret (fun _ => rfl)
    · obtain ⟨e, h⟩ := iq_itn h
      cases h
set_option maxRecDepth 100000 in
theorem zM_within_ok (l : Nat)  (x0 : Int32) (x1 : Int32) (x2 : Int32) (I : iq_I) (J : iq_J) (X : iq_X) {q : Int32} (h : zM_within x0 x1 x2 I = some q) : iq_Cc 1 202 [.int x0, .int x1, .int x2] (iq_sh l, I, J, X) (.inl (some (.int q)), (iq_sh l, I, J, X)) := by
  refine iq_Cc_of (L := [some (.int x0), some (.int x1), some (.int x2)]) rfl rfl ?_
  unfold zM_within at h
  refine iq_G_go (k := 2) (σ' := (2, [some (.int x0), some (.int x1), some (.int x2)], [.int x1, .int x0], (iq_sh l, I, J, X))) (fun _ => rfl) ?_
  rcases iq_ite h with ⟨hc_, h⟩ | ⟨hc_, h⟩
  · refine iq_G_pos (c := x0 < x1) (σ1 := (14, [some (.int x0), some (.int x1), some (.int x2)], [], (iq_sh l, I, J, X))) (fun _ => rfl) hc_ ?_
    refine iq_G_go (k := 1) (σ' := (15, [some (.int x0), some (.int x1), some (.int x2)], [.int (0 : Int32)], (iq_sh l, I, J, X))) (fun _ => rfl) ?_
    cases h
    exact iq_G_ret (fun _ => rfl)
  · refine iq_G_neg (c := x0 < x1) (σ1 := (5, [some (.int x0), some (.int x1), some (.int x2)], [], (iq_sh l, I, J, X))) (fun _ => rfl) hc_ ?_
    refine iq_G_go (k := 2) (σ' := (7, [some (.int x0), some (.int x1), some (.int x2)], [.int x2, .int x0], (iq_sh l, I, J, X))) (fun _ => rfl) ?_
    rcases iq_ite h with ⟨hc_, h⟩ | ⟨hc_, h⟩
    · refine iq_G_pos (c := x2 < x0) (σ1 := (14, [some (.int x0), some (.int x1), some (.int x2)], [], (iq_sh l, I, J, X))) (fun _ => rfl) hc_ ?_
      refine iq_G_go (k := 1) (σ' := (15, [some (.int x0), some (.int x1), some (.int x2)], [.int (0 : Int32)], (iq_sh l, I, J, X))) (fun _ => rfl) ?_
      cases h
      exact iq_G_ret (fun _ => rfl)
    · refine iq_G_neg (c := x2 < x0) (σ1 := (10, [some (.int x0), some (.int x1), some (.int x2)], [], (iq_sh l, I, J, X))) (fun _ => rfl) hc_ ?_
      refine iq_G_go (k := 2) (σ' := (15, [some (.int x0), some (.int x1), some (.int x2)], [.int (1 : Int32)], (iq_sh l, I, J, X))) (fun _ => rfl) ?_
      cases h
      exact iq_G_ret (fun _ => rfl)
set_option maxRecDepth 100000 in
theorem zM_isWhat_ok (l : Nat)  (x1 : Int32) (x2 : Int32) (I : iq_I) (J : iq_J) (X : iq_X) {q : Int32 × iq_I} (h : zM_isWhat x1 x2 I = some q) : iq_Cc 2 253 [.ref 76, .int x1, .int x2] (iq_sh l, I, J, X) (.inl (some (.int q.1)), (iq_sh l, q.2, J, X)) := by
  refine iq_Cc_of (L := [some (.ref 76), some (.int x1), some (.int x2)]) rfl rfl ?_
  unfold zM_isWhat at h
  refine iq_G_go (k := 4) (σ' := (4, [some (.ref 76), some (.int x1), some (.int x2)], [.int x2, .int (0 : Int32), .int x1, .ref 76], (iq_sh l, I, J, X))) (fun _ => rfl) ?_
  obtain ⟨q1, hq1, h⟩ := iq_bnd h
  refine iq_G_call (σ' := (7, [some (.ref 76), some (.int x1), some (.int x2)], [.int q1, .ref 76], (iq_sh l, I, J, X))) (fun _ => rfl) (zM_within_ok l x1 (0 : Int32) x2 I J X hq1) rfl rfl ?_
  refine iq_G_go (k := 1) (σ' := (8, [some (.ref 76), some (.int x1), some (.int x2)], [.int (1 : Int32), .int q1, .ref 76], (iq_sh l, I, J, X))) (fun _ => rfl) ?_
  obtain ⟨q2, hq2, h⟩ := iq_bnd h
  refine iq_G_call (σ' := (11, [some (.ref 76), some (.int x1), some (.int x2)], [.int q2.1], (iq_sh l, q2.2, J, X))) (fun _ => rfl) (zM_right_ok l q1 (1 : Int32) I J X hq2) rfl rfl ?_
  obtain ⟨hc_, h⟩ := iq_itn h
  have h := Option.some.inj h
  subst h
  exact iq_G_rif (c := q2.1 = 0 ∨ q2.1 = 1) (fun _ => rfl) hc_
set_option maxRecDepth 100000 in
theorem zM_often_l30_bok (l : Nat)  (x1 : Int32) (x2 : Int32) (I : iq_I) (J : iq_J) (X : iq_X) (x3 : Int32) (x4 : Int32)  {q : (Int32 × Int32) ⊕ (Int32)} (h : zM_often_l30_b x1 x2 I x3 x4 = some q) (r : iq_R × iq_M) (hc : ∀ v, q = .inl v → iq_Gg 2 305 (30, [some (.ref 76), some (.int x1), some (.int x2), some (.int v.1), some (.int v.2)], [], (iq_sh l, I, J, X)) r) (hx : ∀ w, q = .inr w → iq_Gg 2 305 (75, [none, none, none, some (.int w), none], [], (iq_sh l, I, J, X)) r) : iq_Gg 2 305 (30, [some (.ref 76), some (.int x1), some (.int x2), some (.int x3), some (.int x4)], [], (iq_sh l, I, J, X)) r := by
  unfold zM_often_l30_b at h
  refine iq_G_go (k := 4) (σ' := (37, [some (.ref 76), some (.int x1), some (.int x2), some (.int x3), some (.int x4)], [.int x1, .ref 98, .int x4], (iq_sh l, I, J, X))) (fun _ => rfl) ?_
  obtain ⟨hc_, h⟩ := iq_itn h
  refine iq_G_pos (c := iq_in x1 206) (σ1 := (38, [some (.ref 76), some (.int x1), some (.int x2), some (.int x3), some (.int x4)], [.int (I 98 (Int32.toNatClampNeg x1)), .int x4], (iq_sh l, I, J, X))) (fun _ => rfl) hc_ ?_
  rcases iq_ite h with ⟨hc_, h⟩ | ⟨hc_, h⟩
  · refine iq_G_pos (c := (I 98 (Int32.toNatClampNeg x1)) ≤ x4) (σ1 := (75, [some (.ref 76), some (.int x1), some (.int x2), some (.int x3), some (.int x4)], [], (iq_sh l, I, J, X))) (fun _ => rfl) hc_ ?_
    cases h
    exact iq_G_fg (L := [none, none, none, some (.int x3), none]) (And.intro rfl trivial) (hx x3 rfl)
  · refine iq_G_neg (c := (I 98 (Int32.toNatClampNeg x1)) ≤ x4) (σ1 := (41, [some (.ref 76), some (.int x1), some (.int x2), some (.int x3), some (.int x4)], [], (iq_sh l, I, J, X))) (fun _ => rfl) hc_ ?_
    refine iq_G_go (k := 8) (σ' := (54, [some (.ref 76), some (.int x1), some (.int x2), some (.int x3), some (.int x4)], [.int x4, .int x1, .ref 98, .ref 76, .ref 79, .int x3], (iq_sh l, I, J, X))) (fun _ => rfl) ?_
    obtain ⟨q4, hq4, h⟩ := iq_bnd h
    refine iq_G_call (σ' := (57, [some (.ref 76), some (.int x1), some (.int x2), some (.int x3), some (.int x4)], [.int q4, .ref 79, .int x3], (iq_sh l, I, J, X))) (fun _ => rfl) (zM_wordAt_76_98_ok l x1 x4 I J X hq4) rfl rfl ?_
    obtain ⟨hc_, h⟩ := iq_itn h
    refine iq_G_pos (c := iq_in q4 14) (σ1 := (58, [some (.ref 76), some (.int x1), some (.int x2), some (.int x3), some (.int x4)], [.int (I 79 (Int32.toNatClampNeg q4)), .int x3], (iq_sh l, I, J, X))) (fun _ => rfl) hc_ ?_
    refine iq_G_go (k := 1) (σ' := (59, [some (.ref 76), some (.int x1), some (.int x2), some (.int x3), some (.int x4)], [.int x2, .int (I 79 (Int32.toNatClampNeg q4)), .int x3], (iq_sh l, I, J, X))) (fun _ => rfl) ?_
    rcases iq_ite h with ⟨hc_, h⟩ | ⟨hc_, h⟩
    · refine iq_G_pos (c := ¬ (I 79 (Int32.toNatClampNeg q4)) = x2) (σ1 := (66, [some (.ref 76), some (.int x1), some (.int x2), some (.int x3), some (.int x4)], [.int x3], (iq_sh l, I, J, X))) (fun _ => rfl) hc_ ?_
      refine iq_G_go (k := 5) (σ' := (30, [some (.ref 76), some (.int x1), some (.int x2), some (.int (x3 + (0 : Int32))), some (.int (x4 + (1 : Int32)))], [], (iq_sh l, I, J, X))) (fun _ => rfl) ?_
      cases h
      exact iq_G_fg (L := [some (.ref 76), some (.int x1), some (.int x2), some (.int (x3 + (0 : Int32))), some (.int (x4 + (1 : Int32)))]) (And.intro rfl (And.intro rfl (And.intro rfl (And.intro rfl (And.intro rfl trivial))))) (hc ((x3 + (0 : Int32)), (x4 + (1 : Int32))) rfl)
    · refine iq_G_neg (c := ¬ (I 79 (Int32.toNatClampNeg q4)) = x2) (σ1 := (62, [some (.ref 76), some (.int x1), some (.int x2), some (.int x3), some (.int x4)], [.int x3], (iq_sh l, I, J, X))) (fun _ => rfl) hc_ ?_
      refine iq_G_go (k := 6) (σ' := (30, [some (.ref 76), some (.int x1), some (.int x2), some (.int (x3 + (1 : Int32))), some (.int (x4 + (1 : Int32)))], [], (iq_sh l, I, J, X))) (fun _ => rfl) ?_
      cases h
      exact iq_G_fg (L := [some (.ref 76), some (.int x1), some (.int x2), some (.int (x3 + (1 : Int32))), some (.int (x4 + (1 : Int32)))]) (And.intro rfl (And.intro rfl (And.intro rfl (And.intro rfl (And.intro rfl trivial))))) (hc ((x3 + (1 : Int32)), (x4 + (1 : Int32))) rfl)
set_option maxRecDepth 100000 in
theorem zM_often_l30_ok (l : Nat)  (x1 : Int32) (x2 : Int32) (I : iq_I) (J : iq_J) (X : iq_X) {n : Nat} {v : Int32 × Int32} {w : Int32} (h : zM_often_l30 x1 x2 I n v = some w) (r : iq_R × iq_M) (hq : iq_Gg 2 305 (75, [none, none, none, some (.int w), none], [], (iq_sh l, I, J, X)) r) : iq_Gg 2 305 (30, [some (.ref 76), some (.int x1), some (.int x2), some (.int v.1), some (.int v.2)], [], (iq_sh l, I, J, X)) r :=
  iq_lp_ok (σ := fun v => (30, [some (.ref 76), some (.int x1), some (.int x2), some (.int v.1), some (.int v.2)], [], (iq_sh l, I, J, X))) (Q := fun w r => iq_Gg 2 305 (75, [none, none, none, some (.int w), none], [], (iq_sh l, I, J, X)) r) (fun v q hv r h1 h2 => zM_often_l30_bok l x1 x2 I J X v.1 v.2 hv r h1 h2) h r hq
set_option maxRecDepth 100000 in
theorem zM_often_ok (l : Nat)  (x1 : Int32) (x2 : Int32) (I : iq_I) (J : iq_J) (X : iq_X) {q : Int32 × iq_I} (h : zM_often x1 x2 I = some q) : iq_Cc 3 305 [.ref 76, .int x1, .int x2] (iq_sh l, I, J, X) (.inl (some (.int q.1)), (iq_sh l, q.2, J, X)) := by
  refine iq_Cc_of (L := [some (.ref 76), some (.int x1), some (.int x2), none, none]) rfl rfl ?_
  unfold zM_often at h
  refine iq_G_go (k := 2) (σ' := (2, [some (.ref 76), some (.int x1), some (.int x2), none, none], [.int (0 : Int32), .ref 76], (iq_sh l, I, J, X))) (fun _ => rfl) ?_
  refine iq_G_go (k := 1) (σ' := (5, [some (.ref 76), some (.int x1), some (.int x2), none, none], [], (iq_sh l, (iq_upI I 76 0 (0 : Int32)), J, X))) (fun _ => rfl) ?_
  obtain ⟨I1, eI1, h⟩ := ir_letG h
  rw [← eI1]
  clear eI1
  refine iq_G_go (k := 2) (σ' := (7, [some (.ref 76), some (.int x1), some (.int x2), none, none], [.int x1, .ref 76], (iq_sh l, I1, J, X))) (fun _ => rfl) ?_
  obtain ⟨q2, hq2, h⟩ := iq_bnd h
  refine iq_G_call (σ' := (10, [some (.ref 76), some (.int x1), some (.int x2), none, none], [.int q2.1], (iq_sh l, q2.2, J, X))) (fun _ => rfl) (zM_isSaying_ok l x1 I1 J X hq2) rfl rfl ?_
  rcases iq_ite h with ⟨hc_, h⟩ | ⟨hc_, h⟩
  · refine iq_G_pos (c := q2.1 = 0) (σ1 := (23, [some (.ref 76), some (.int x1), some (.int x2), none, none], [], (iq_sh l, q2.2, J, X))) (fun _ => rfl) hc_ ?_
    refine iq_G_go (k := 1) (σ' := (24, [some (.ref 76), some (.int x1), some (.int x2), none, none], [.int (0 : Int32)], (iq_sh l, q2.2, J, X))) (fun _ => rfl) ?_
    cases h
    exact iq_G_ret (fun _ => rfl)
  · refine iq_G_neg (c := q2.1 = 0) (σ1 := (13, [some (.ref 76), some (.int x1), some (.int x2), none, none], [], (iq_sh l, q2.2, J, X))) (fun _ => rfl) hc_ ?_
    refine iq_G_go (k := 3) (σ' := (17, [some (.ref 76), some (.int x1), some (.int x2), none, none], [.int (7 : Int32), .int x2, .ref 76], (iq_sh l, q2.2, J, X))) (fun _ => rfl) ?_
    obtain ⟨q3, hq3, h⟩ := iq_bnd h
    refine iq_G_call (σ' := (20, [some (.ref 76), some (.int x1), some (.int x2), none, none], [.int q3.1], (iq_sh l, q3.2, J, X))) (fun _ => rfl) (zM_isWhat_ok l x2 (7 : Int32) q2.2 J X hq3) rfl rfl ?_
    rcases iq_ite h with ⟨hc_, h⟩ | ⟨hc_, h⟩
    · refine iq_G_pos (c := ¬ q3.1 = 0) (σ1 := (25, [some (.ref 76), some (.int x1), some (.int x2), none, none], [], (iq_sh l, q3.2, J, X))) (fun _ => rfl) hc_ ?_
      refine iq_G_go (k := 4) (σ' := (30, [some (.ref 76), some (.int x1), some (.int x2), some (.int (0 : Int32)), some (.int (0 : Int32))], [], (iq_sh l, q3.2, J, X))) (fun _ => rfl) ?_
      obtain ⟨w5, hw5, h⟩ := iq_bnd h
      refine iq_G_fg (L := [some (.ref 76), some (.int x1), some (.int x2), some (.int (0 : Int32)), some (.int (0 : Int32))]) (And.intro rfl (And.intro rfl (And.intro rfl (And.intro rfl (And.intro rfl trivial))))) ?_
      refine zM_often_l30_ok l x1 x2 q3.2 J X hw5 _ ?_
      show iq_Gg 2 305 (75, [none, none, none, some (.int w5), none], [], (iq_sh l, q3.2, J, X)) _
      refine iq_G_go (k := 1) (σ' := (76, [none, none, none, some (.int w5), none], [.int w5], (iq_sh l, q3.2, J, X))) (fun _ => rfl) ?_
      cases h
      exact iq_G_ret (fun _ => rfl)
    · refine iq_G_neg (c := ¬ q3.1 = 0) (σ1 := (23, [some (.ref 76), some (.int x1), some (.int x2), none, none], [], (iq_sh l, q3.2, J, X))) (fun _ => rfl) hc_ ?_
      refine iq_G_go (k := 1) (σ' := (24, [some (.ref 76), some (.int x1), some (.int x2), none, none], [.int (0 : Int32)], (iq_sh l, q3.2, J, X))) (fun _ => rfl) ?_
      cases h
      exact iq_G_ret (fun _ => rfl)
set_option maxRecDepth 100000 in
theorem zO_needWord_15_ok (l : Nat)   (I : iq_I) (J : iq_J) (X : iq_X)  {q : (Unit ⊕ Nat) × iq_X} (h : zO_needWord_15 I X = some q)  : iq_Gg 0 193 (15, [none, none], [], (iq_sh l, I, J, X)) ((ir_Rv q.1), (iq_sh l, I, J, q.2)) := by
  unfold zO_needWord_15 at h
  cases h
  exact iq_G_ret (fun _ => rfl)
set_option maxRecDepth 100000 in
theorem zO_needWord_ok (l : Nat)  (x1 : Int32) (I : iq_I) (J : iq_J) (X : iq_X) {q : (Unit ⊕ Nat) × iq_X} (h : zO_needWord x1 I X = some q) : iq_Cc 1 193 [.ref 1, .int x1] (iq_sh l, I, J, X) ((ir_Rv q.1), (iq_sh l, I, J, q.2)) := by
  refine iq_Cc_of (L := [some (.ref 1), some (.int x1)]) rfl rfl ?_
  unfold zO_needWord at h
  refine iq_G_go (k := 1) (σ' := (1, [some (.ref 1), some (.int x1)], [.int x1], (iq_sh l, I, J, X))) (fun _ => rfl) ?_
  rcases iq_ite h with ⟨hc_, h⟩ | ⟨hc_, h⟩
  · refine iq_G_pos (c := x1 < 0) (σ1 := (15, [some (.ref 1), some (.int x1)], [], (iq_sh l, I, J, X))) (fun _ => rfl) hc_ ?_
    exact iq_G_fg (L := [none, none]) trivial (zO_needWord_15_ok l I J X  h )
  · refine iq_G_neg (c := x1 < 0) (σ1 := (4, [some (.ref 1), some (.int x1)], [], (iq_sh l, I, J, X))) (fun _ => rfl) hc_ ?_
    refine iq_G_go (k := 4) (σ' := (12, [some (.ref 1), some (.int x1)], [.int (I 4 2), .int x1], (iq_sh l, I, J, X))) (fun _ => rfl) ?_
    rcases iq_ite h with ⟨hc_, h⟩ | ⟨hc_, h⟩
    · refine iq_G_pos (c := x1 < (I 4 2)) (σ1 := (26, [some (.ref 1), some (.int x1)], [], (iq_sh l, I, J, X))) (fun _ => rfl) hc_ ?_
      cases h
      exact iq_G_ret (fun _ => rfl)
    · refine iq_G_neg (c := x1 < (I 4 2)) (σ1 := (15, [some (.ref 1), some (.int x1)], [], (iq_sh l, I, J, X))) (fun _ => rfl) hc_ ?_
      exact iq_G_fg (L := [none, none]) trivial (zO_needWord_15_ok l I J X  h )
set_option maxRecDepth 100000 in
theorem zG_timesIn_16_l19_bok (l : Nat)  (x1 : Int32) (x2 : Int32) (I : iq_I) (J : iq_J) (X : iq_X) (x3 : Int32) (x4 : Int32)  {q : (Int32 × Int32) ⊕ (Int32)} (h : zG_timesIn_16_l19_b x1 x2 I x3 x4 = some q) (r : iq_R × iq_M) (hc : ∀ v, q = .inl v → iq_Gg 0 12 (19, [some (.ref 16), some (.int x1), some (.int x2), some (.int v.1), some (.int v.2)], [], (iq_sh l, I, J, X)) r) (hx : ∀ w, q = .inr w → iq_Gg 0 12 (55, [none, none, none, some (.int w), none], [], (iq_sh l, I, J, X)) r) : iq_Gg 0 12 (19, [some (.ref 16), some (.int x1), some (.int x2), some (.int x3), some (.int x4)], [], (iq_sh l, I, J, X)) r := by
  unfold zG_timesIn_16_l19_b at h
  refine iq_G_go (k := 4) (σ' := (26, [some (.ref 16), some (.int x1), some (.int x2), some (.int x3), some (.int x4)], [.int x1, .ref 18, .int x4], (iq_sh l, I, J, X))) (fun _ => rfl) ?_
  obtain ⟨hc_, h⟩ := iq_itn h
  refine iq_G_pos (c := iq_in x1 5) (σ1 := (27, [some (.ref 16), some (.int x1), some (.int x2), some (.int x3), some (.int x4)], [.int (I 18 (Int32.toNatClampNeg x1)), .int x4], (iq_sh l, I, J, X))) (fun _ => rfl) hc_ ?_
  rcases iq_ite h with ⟨hc_, h⟩ | ⟨hc_, h⟩
  · refine iq_G_pos (c := (I 18 (Int32.toNatClampNeg x1)) ≤ x4) (σ1 := (55, [some (.ref 16), some (.int x1), some (.int x2), some (.int x3), some (.int x4)], [], (iq_sh l, I, J, X))) (fun _ => rfl) hc_ ?_
    cases h
    exact iq_G_fg (L := [none, none, none, some (.int x3), none]) (And.intro rfl trivial) (hx x3 rfl)
  · refine iq_G_neg (c := (I 18 (Int32.toNatClampNeg x1)) ≤ x4) (σ1 := (30, [some (.ref 16), some (.int x1), some (.int x2), some (.int x3), some (.int x4)], [], (iq_sh l, I, J, X))) (fun _ => rfl) hc_ ?_
    refine iq_G_go (k := 7) (σ' := (41, [some (.ref 16), some (.int x1), some (.int x2), some (.int x3), some (.int x4)], [.int ((x1 * (40 : Int32)) + x4), .ref 24], (iq_sh l, I, J, X))) (fun _ => rfl) ?_
    obtain ⟨hc_, h⟩ := iq_itn h
    refine iq_G_pos (c := iq_in ((x1 * (40 : Int32)) + x4) 200) (σ1 := (42, [some (.ref 16), some (.int x1), some (.int x2), some (.int x3), some (.int x4)], [.int (I 24 (Int32.toNatClampNeg ((x1 * (40 : Int32)) + x4)))], (iq_sh l, I, J, X))) (fun _ => rfl) hc_ ?_
    refine iq_G_go (k := 1) (σ' := (43, [some (.ref 16), some (.int x1), some (.int x2), some (.int x3), some (.int x4)], [.int x2, .int (I 24 (Int32.toNatClampNeg ((x1 * (40 : Int32)) + x4)))], (iq_sh l, I, J, X))) (fun _ => rfl) ?_
    rcases iq_ite h with ⟨hc_, h⟩ | ⟨hc_, h⟩
    · refine iq_G_pos (c := ¬ (I 24 (Int32.toNatClampNeg ((x1 * (40 : Int32)) + x4))) = x2) (σ1 := (49, [some (.ref 16), some (.int x1), some (.int x2), some (.int x3), some (.int x4)], [], (iq_sh l, I, J, X))) (fun _ => rfl) hc_ ?_
      refine iq_G_go (k := 2) (σ' := (19, [some (.ref 16), some (.int x1), some (.int x2), some (.int x3), some (.int (x4 + (1 : Int32)))], [], (iq_sh l, I, J, X))) (fun _ => rfl) ?_
      cases h
      exact iq_G_fg (L := [some (.ref 16), some (.int x1), some (.int x2), some (.int x3), some (.int (x4 + (1 : Int32)))]) (And.intro rfl (And.intro rfl (And.intro rfl (And.intro rfl (And.intro rfl trivial))))) (hc (x3, (x4 + (1 : Int32))) rfl)
    · refine iq_G_neg (c := ¬ (I 24 (Int32.toNatClampNeg ((x1 * (40 : Int32)) + x4))) = x2) (σ1 := (46, [some (.ref 16), some (.int x1), some (.int x2), some (.int x3), some (.int x4)], [], (iq_sh l, I, J, X))) (fun _ => rfl) hc_ ?_
      refine iq_G_go (k := 3) (σ' := (19, [some (.ref 16), some (.int x1), some (.int x2), some (.int (x3 + (1 : Int32))), some (.int (x4 + (1 : Int32)))], [], (iq_sh l, I, J, X))) (fun _ => rfl) ?_
      cases h
      exact iq_G_fg (L := [some (.ref 16), some (.int x1), some (.int x2), some (.int (x3 + (1 : Int32))), some (.int (x4 + (1 : Int32)))]) (And.intro rfl (And.intro rfl (And.intro rfl (And.intro rfl (And.intro rfl trivial))))) (hc ((x3 + (1 : Int32)), (x4 + (1 : Int32))) rfl)
set_option maxRecDepth 100000 in
theorem zG_timesIn_16_l19_ok (l : Nat)  (x1 : Int32) (x2 : Int32) (I : iq_I) (J : iq_J) (X : iq_X) {n : Nat} {v : Int32 × Int32} {w : Int32} (h : zG_timesIn_16_l19 x1 x2 I n v = some w) (r : iq_R × iq_M) (hq : iq_Gg 0 12 (55, [none, none, none, some (.int w), none], [], (iq_sh l, I, J, X)) r) : iq_Gg 0 12 (19, [some (.ref 16), some (.int x1), some (.int x2), some (.int v.1), some (.int v.2)], [], (iq_sh l, I, J, X)) r :=
  iq_lp_ok (σ := fun v => (19, [some (.ref 16), some (.int x1), some (.int x2), some (.int v.1), some (.int v.2)], [], (iq_sh l, I, J, X))) (Q := fun w r => iq_Gg 0 12 (55, [none, none, none, some (.int w), none], [], (iq_sh l, I, J, X)) r) (fun v q hv r h1 h2 => zG_timesIn_16_l19_bok l x1 x2 I J X v.1 v.2 hv r h1 h2) h r hq
set_option maxRecDepth 100000 in
theorem zG_timesIn_16_ok (l : Nat)  (x1 : Int32) (x2 : Int32) (I : iq_I) (J : iq_J) (X : iq_X) {q : Int32} (h : zG_timesIn_16 x1 x2 I = some q) : iq_Cc 1 12 [.ref 16, .int x1, .int x2] (iq_sh l, I, J, X) (.inl (some (.int q)), (iq_sh l, I, J, X)) := by
  refine iq_Cc_of (L := [some (.ref 16), some (.int x1), some (.int x2), none, none]) rfl rfl ?_
  unfold zG_timesIn_16 at h
  refine iq_G_go (k := 1) (σ' := (1, [some (.ref 16), some (.int x1), some (.int x2), none, none], [.int x1], (iq_sh l, I, J, X))) (fun _ => rfl) ?_
  rcases iq_ite h with ⟨hc_, h⟩ | ⟨hc_, h⟩
  · refine iq_G_pos (c := x1 < 0) (σ1 := (12, [some (.ref 16), some (.int x1), some (.int x2), none, none], [], (iq_sh l, I, J, X))) (fun _ => rfl) hc_ ?_
    refine iq_G_go (k := 1) (σ' := (13, [some (.ref 16), some (.int x1), some (.int x2), none, none], [.int (0 : Int32)], (iq_sh l, I, J, X))) (fun _ => rfl) ?_
    cases h
    exact iq_G_ret (fun _ => rfl)
  · refine iq_G_neg (c := x1 < 0) (σ1 := (4, [some (.ref 16), some (.int x1), some (.int x2), none, none], [], (iq_sh l, I, J, X))) (fun _ => rfl) hc_ ?_
    refine iq_G_go (k := 3) (σ' := (9, [some (.ref 16), some (.int x1), some (.int x2), none, none], [.int (I 16 0), .int x1], (iq_sh l, I, J, X))) (fun _ => rfl) ?_
    rcases iq_ite h with ⟨hc_, h⟩ | ⟨hc_, h⟩
    · refine iq_G_pos (c := x1 < (I 16 0)) (σ1 := (14, [some (.ref 16), some (.int x1), some (.int x2), none, none], [], (iq_sh l, I, J, X))) (fun _ => rfl) hc_ ?_
      refine iq_G_go (k := 4) (σ' := (19, [some (.ref 16), some (.int x1), some (.int x2), some (.int (0 : Int32)), some (.int (0 : Int32))], [], (iq_sh l, I, J, X))) (fun _ => rfl) ?_
      obtain ⟨w1, hw1, h⟩ := iq_bnd h
      refine iq_G_fg (L := [some (.ref 16), some (.int x1), some (.int x2), some (.int (0 : Int32)), some (.int (0 : Int32))]) (And.intro rfl (And.intro rfl (And.intro rfl (And.intro rfl (And.intro rfl trivial))))) ?_
      refine zG_timesIn_16_l19_ok l x1 x2 I J X hw1 _ ?_
      show iq_Gg 0 12 (55, [none, none, none, some (.int w1), none], [], (iq_sh l, I, J, X)) _
      refine iq_G_go (k := 1) (σ' := (56, [none, none, none, some (.int w1), none], [.int w1], (iq_sh l, I, J, X))) (fun _ => rfl) ?_
      cases h
      exact iq_G_ret (fun _ => rfl)
    · refine iq_G_neg (c := x1 < (I 16 0)) (σ1 := (12, [some (.ref 16), some (.int x1), some (.int x2), none, none], [], (iq_sh l, I, J, X))) (fun _ => rfl) hc_ ?_
      refine iq_G_go (k := 1) (σ' := (13, [some (.ref 16), some (.int x1), some (.int x2), none, none], [.int (0 : Int32)], (iq_sh l, I, J, X))) (fun _ => rfl) ?_
      cases h
      exact iq_G_ret (fun _ => rfl)
set_option maxRecDepth 100000 in
theorem zO_about_l9_bok (l : Nat)  (x1 : Int32) (I : iq_I) (J : iq_J) (X : iq_X) (x2 : Int32) (x3 : Int32)  {q : (Int32 × Int32) ⊕ (Int32)} (h : zO_about_l9_b x1 I X x2 x3 = some q) (r : iq_R × iq_M) (hc : ∀ v, q = .inl v → iq_Gg 1 185 (9, [some (.ref 1), some (.int x1), some (.int v.1), some (.int v.2)], [], (iq_sh l, I, J, X)) r) (hx : ∀ w, q = .inr w → iq_Gg 1 185 (44, [none, none, some (.int w), none], [], (iq_sh l, I, J, X)) r) : iq_Gg 1 185 (9, [some (.ref 1), some (.int x1), some (.int x2), some (.int x3)], [], (iq_sh l, I, J, X)) r := by
  unfold zO_about_l9_b at h
  refine iq_G_go (k := 4) (σ' := (17, [some (.ref 1), some (.int x1), some (.int x2), some (.int x3)], [.int (I 16 0), .int x3], (iq_sh l, I, J, X))) (fun _ => rfl) ?_
  rcases iq_ite h with ⟨hc_, h⟩ | ⟨hc_, h⟩
  · refine iq_G_pos (c := (I 16 0) ≤ x3) (σ1 := (44, [some (.ref 1), some (.int x1), some (.int x2), some (.int x3)], [], (iq_sh l, I, J, X))) (fun _ => rfl) hc_ ?_
    cases h
    exact iq_G_fg (L := [none, none, some (.int x2), none]) (And.intro rfl trivial) (hx x2 rfl)
  · refine iq_G_neg (c := (I 16 0) ≤ x3) (σ1 := (20, [some (.ref 1), some (.int x1), some (.int x2), some (.int x3)], [], (iq_sh l, I, J, X))) (fun _ => rfl) hc_ ?_
    refine iq_G_go (k := 4) (σ' := (26, [some (.ref 1), some (.int x1), some (.int x2), some (.int x3)], [.int x1, .int x3, .ref 16], (iq_sh l, I, J, X))) (fun _ => rfl) ?_
    obtain ⟨q4, hq4, h⟩ := iq_bnd h
    refine iq_G_call (σ' := (29, [some (.ref 1), some (.int x1), some (.int x2), some (.int x3)], [.int q4], (iq_sh l, I, J, X))) (fun _ => rfl) (zG_timesIn_16_ok l x3 x1 I J X hq4) rfl rfl ?_
    rcases iq_ite h with ⟨hc_, h⟩ | ⟨hc_, h⟩
    · refine iq_G_pos (c := q4 ≤ 0) (σ1 := (38, [some (.ref 1), some (.int x1), some (.int x2), some (.int x3)], [], (iq_sh l, I, J, X))) (fun _ => rfl) hc_ ?_
      refine iq_G_go (k := 2) (σ' := (9, [some (.ref 1), some (.int x1), some (.int x2), some (.int (x3 + (1 : Int32)))], [], (iq_sh l, I, J, X))) (fun _ => rfl) ?_
      cases h
      exact iq_G_fg (L := [some (.ref 1), some (.int x1), some (.int x2), some (.int (x3 + (1 : Int32)))]) (And.intro rfl (And.intro rfl (And.intro rfl (And.intro rfl trivial)))) (hc (x2, (x3 + (1 : Int32))) rfl)
    · refine iq_G_neg (c := q4 ≤ 0) (σ1 := (32, [some (.ref 1), some (.int x1), some (.int x2), some (.int x3)], [], (iq_sh l, I, J, X))) (fun _ => rfl) hc_ ?_
      refine iq_G_go (k := 8) (σ' := (9, [some (.ref 1), some (.int x1), some (.int (x2 ||| ((1 : Int32) <<< (x3 &&& 31)))), some (.int (x3 + (1 : Int32)))], [], (iq_sh l, I, J, X))) (fun _ => rfl) ?_
      cases h
      exact iq_G_fg (L := [some (.ref 1), some (.int x1), some (.int (x2 ||| ((1 : Int32) <<< (x3 &&& 31)))), some (.int (x3 + (1 : Int32)))]) (And.intro rfl (And.intro rfl (And.intro rfl (And.intro rfl trivial)))) (hc ((x2 ||| ((1 : Int32) <<< (x3 &&& 31))), (x3 + (1 : Int32))) rfl)
set_option maxRecDepth 100000 in
theorem zO_about_l9_ok (l : Nat)  (x1 : Int32) (I : iq_I) (J : iq_J) (X : iq_X) {n : Nat} {v : Int32 × Int32} {w : Int32} (h : zO_about_l9 x1 I X n v = some w) (r : iq_R × iq_M) (hq : iq_Gg 1 185 (44, [none, none, some (.int w), none], [], (iq_sh l, I, J, X)) r) : iq_Gg 1 185 (9, [some (.ref 1), some (.int x1), some (.int v.1), some (.int v.2)], [], (iq_sh l, I, J, X)) r :=
  iq_lp_ok (σ := fun v => (9, [some (.ref 1), some (.int x1), some (.int v.1), some (.int v.2)], [], (iq_sh l, I, J, X))) (Q := fun w r => iq_Gg 1 185 (44, [none, none, some (.int w), none], [], (iq_sh l, I, J, X)) r) (fun v q hv r h1 h2 => zO_about_l9_bok l x1 I J X v.1 v.2 hv r h1 h2) h r hq
set_option maxRecDepth 100000 in
theorem zO_about_ok (l : Nat)  (x1 : Int32) (I : iq_I) (J : iq_J) (X : iq_X) {q : (Int32 ⊕ Nat) × iq_X} (h : zO_about x1 I X = some q) : iq_Cc 2 185 [.ref 1, .int x1] (iq_sh l, I, J, X) ((ir_Ri q.1), (iq_sh l, I, J, q.2)) := by
  refine iq_Cc_of (L := [some (.ref 1), some (.int x1), none, none]) rfl rfl ?_
  unfold zO_about at h
  refine iq_G_go (k := 2) (σ' := (2, [some (.ref 1), some (.int x1), none, none], [.int x1, .ref 1], (iq_sh l, I, J, X))) (fun _ => rfl) ?_
  obtain ⟨q1, hq1, h⟩ := iq_bnd h
  have hC := (zO_needWord_ok l x1 I J X hq1)
  rcases iq_smc h with ⟨a2, ha, h⟩ | ⟨k3, ha, h⟩
  · rw [ha] at hC
    refine iq_G_call (σ' := (5, [some (.ref 1), some (.int x1), none, none], [], (iq_sh l, I, J, q1.2))) (fun _ => rfl) hC rfl rfl ?_
    refine iq_G_go (k := 4) (σ' := (9, [some (.ref 1), some (.int x1), some (.int (0 : Int32)), some (.int (0 : Int32))], [], (iq_sh l, I, J, q1.2))) (fun _ => rfl) ?_
    obtain ⟨w5, hw5, h⟩ := iq_bnd h
    refine iq_G_fg (L := [some (.ref 1), some (.int x1), some (.int (0 : Int32)), some (.int (0 : Int32))]) (And.intro rfl (And.intro rfl (And.intro rfl (And.intro rfl trivial)))) ?_
    refine zO_about_l9_ok l x1 I J q1.2 hw5 _ ?_
    show iq_Gg 1 185 (44, [none, none, some (.int w5), none], [], (iq_sh l, I, J, q1.2)) _
    refine iq_G_go (k := 1) (σ' := (45, [none, none, some (.int w5), none], [.int w5], (iq_sh l, I, J, q1.2))) (fun _ => rfl) ?_
    cases h
    exact iq_G_ret (fun _ => rfl)
  · rw [ha] at hC
    cases h
    exact iq_G_callx (fun _ => rfl) hC rfl rfl
set_option maxRecDepth 100000 in
theorem zL_about_ok (l : Nat)  (x1 : Int32) (I : iq_I) (J : iq_J) (X : iq_X) {q : Int32 × iq_J × iq_X} (h : zL_about x1 I J X = some q) : iq_Cc 3 354 [.ref 1, .int x1, .ref 114] (iq_sh l, I, J, X) (.inl (some (.int q.1)), (iq_sh l, I, q.2.1, q.2.2)) := by
  refine iq_Cc_of (L := [some (.ref 1), some (.int x1), some (.ref 114), none]) rfl rfl ?_
  unfold zL_about at h
  refine iq_G_go (k := 4) (σ' := (4, [some (.ref 1), some (.int x1), some (.ref 114), none], [.int x1, .ref 1, .int (0 : Int32), .ref 114], (iq_sh l, I, J, X))) (fun _ => rfl) ?_
  obtain ⟨q1, hq1, h⟩ := iq_bnd h
  have hC := (zO_about_ok l x1 I J X hq1)
  rcases iq_smc h with ⟨a2, ha, h⟩ | ⟨k3, ha, h⟩
  · rw [ha] at hC
    refine iq_G_call (σ' := (7, [some (.ref 1), some (.int x1), some (.ref 114), none], [.int a2, .int (0 : Int32), .ref 114], (iq_sh l, I, J, q1.2))) (fun _ => rfl) hC rfl rfl ?_
    refine iq_G_go (k := 1) (σ' := (8, [some (.ref 1), some (.int x1), some (.ref 114), none], [.long (Int32.toInt64 a2), .int (0 : Int32), .ref 114], (iq_sh l, I, J, q1.2))) (fun _ => rfl) ?_
    refine iq_G_go (k := 1) (σ' := (9, [some (.ref 1), some (.int x1), some (.ref 114), none], [], (iq_sh l, I, (iq_upJ J 114 0 (Int32.toInt64 a2)), q1.2))) (fun _ => rfl) ?_
    obtain ⟨J4, eJ4, h⟩ := ir_letG h
    rw [← eJ4]
    clear eJ4
    refine iq_G_go (k := 2) (σ' := (16, [some (.ref 1), some (.int x1), some (.ref 114), none], [.int (0 : Int32)], (iq_sh l, I, J4, q1.2))) (fun _ => rfl) ?_
    cases h
    exact iq_G_ret (fun _ => rfl)
  · rw [ha] at hC
    rcases iq_ite h with ⟨e, h⟩ | ⟨_, h⟩
    · subst e
      refine iq_G_call (σ' := (13, [some (.ref 1), some (.int x1), some (.ref 114), none], [], (iq_sh l, I, J, q1.2))) (fun _ => rfl) hC rfl rfl ?_
      refine iq_G_go (k := 1) (σ' := (14, [some (.ref 1), some (.int x1), some (.ref 114), none], [.int (1 : Int32)], (iq_sh l, I, J, q1.2))) (fun _ => rfl) ?_
      cases h
      exact iq_G_ret (fun _ => rfl)
    · obtain ⟨e, h⟩ := iq_itn h
      cases h
set_option maxRecDepth 100000 in
theorem zM_isWord_18_ok (l : Nat)  (s1 : Int32) (I : iq_I) (J : iq_J) (X : iq_X)  {q : Int32 × iq_I} (h : zM_isWord_18 s1 I = some q)  : iq_Gg 1 251 (18, [none, none], [.int s1, .ref 76], (iq_sh l, I, J, X)) (.inl (some (.int q.1)), (iq_sh l, q.2, J, X)) := by
  unfold zM_isWord_18 at h
  refine iq_G_go (k := 1) (σ' := (19, [none, none], [.int (1 : Int32), .int s1, .ref 76], (iq_sh l, I, J, X))) (fun _ => rfl) ?_
  obtain ⟨q1, hq1, h⟩ := iq_bnd h
  refine iq_G_call (σ' := (22, [none, none], [.int q1.1], (iq_sh l, q1.2, J, X))) (fun _ => rfl) (zM_right_ok l s1 (1 : Int32) I J X hq1) rfl rfl ?_
  obtain ⟨hc_, h⟩ := iq_itn h
  have h := Option.some.inj h
  subst h
  exact iq_G_rif (c := q1.1 = 0 ∨ q1.1 = 1) (fun _ => rfl) hc_
set_option maxRecDepth 100000 in
theorem zM_isWord_17_ok (l : Nat)   (I : iq_I) (J : iq_J) (X : iq_X)  {q : Int32 × iq_I} (h : zM_isWord_17 I = some q)  : iq_Gg 1 251 (17, [none, none], [.ref 76], (iq_sh l, I, J, X)) (.inl (some (.int q.1)), (iq_sh l, q.2, J, X)) := by
  unfold zM_isWord_17 at h
  refine iq_G_go (k := 1) (σ' := (18, [none, none], [.int (0 : Int32), .ref 76], (iq_sh l, I, J, X))) (fun _ => rfl) ?_
  exact iq_G_fg (L := [none, none]) trivial (zM_isWord_18_ok l (0 : Int32) I J X  h )
set_option maxRecDepth 100000 in
theorem zM_isWord_ok (l : Nat)  (x1 : Int32) (I : iq_I) (J : iq_J) (X : iq_X) {q : Int32 × iq_I} (h : zM_isWord x1 I = some q) : iq_Cc 2 251 [.ref 76, .int x1] (iq_sh l, I, J, X) (.inl (some (.int q.1)), (iq_sh l, q.2, J, X)) := by
  refine iq_Cc_of (L := [some (.ref 76), some (.int x1)]) rfl rfl ?_
  unfold zM_isWord at h
  refine iq_G_go (k := 2) (σ' := (2, [some (.ref 76), some (.int x1)], [.int x1, .ref 76], (iq_sh l, I, J, X))) (fun _ => rfl) ?_
  rcases iq_ite h with ⟨hc_, h⟩ | ⟨hc_, h⟩
  · refine iq_G_pos (c := x1 < 0) (σ1 := (17, [some (.ref 76), some (.int x1)], [.ref 76], (iq_sh l, I, J, X))) (fun _ => rfl) hc_ ?_
    exact iq_G_fg (L := [none, none]) trivial (zM_isWord_17_ok l I J X  h )
  · refine iq_G_neg (c := x1 < 0) (σ1 := (5, [some (.ref 76), some (.int x1)], [.ref 76], (iq_sh l, I, J, X))) (fun _ => rfl) hc_ ?_
    refine iq_G_go (k := 3) (σ' := (10, [some (.ref 76), some (.int x1)], [.int (I 76 2), .int x1, .ref 76], (iq_sh l, I, J, X))) (fun _ => rfl) ?_
    rcases iq_ite h with ⟨hc_, h⟩ | ⟨hc_, h⟩
    · refine iq_G_pos (c := (I 76 2) ≤ x1) (σ1 := (17, [some (.ref 76), some (.int x1)], [.ref 76], (iq_sh l, I, J, X))) (fun _ => rfl) hc_ ?_
      exact iq_G_fg (L := [none, none]) trivial (zM_isWord_17_ok l I J X  h )
    · refine iq_G_neg (c := (I 76 2) ≤ x1) (σ1 := (13, [some (.ref 76), some (.int x1)], [.ref 76], (iq_sh l, I, J, X))) (fun _ => rfl) hc_ ?_
      refine iq_G_go (k := 2) (σ' := (18, [some (.ref 76), some (.int x1)], [.int (1 : Int32), .ref 76], (iq_sh l, I, J, X))) (fun _ => rfl) ?_
      exact iq_G_fg (L := [none, none]) trivial (zM_isWord_18_ok l (1 : Int32) I J X  h )
set_option maxRecDepth 100000 in
theorem zM_about_l30_bok (l : Nat)  (x1 : Int32) (x3 : Int32) (I : iq_I) (J : iq_J) (X : iq_X) (x2 : Int32) (x4 : Int32)  {q : (Int32 × Int32) ⊕ (Int32)} (h : zM_about_l30_b x1 x3 I x2 x4 = some q) (r : iq_R × iq_M) (hc : ∀ v, q = .inl v → iq_Gg 2 304 (30, [some (.ref 76), some (.int x1), some (.int v.1), some (.int x3), some (.int v.2)], [], (iq_sh l, I, J, X)) r) (hx : ∀ w, q = .inr w → iq_Gg 2 304 (72, [some (.ref 76), some (.int x1), some (.int w), some (.int x3), none], [], (iq_sh l, I, J, X)) r) : iq_Gg 2 304 (30, [some (.ref 76), some (.int x1), some (.int x2), some (.int x3), some (.int x4)], [], (iq_sh l, I, J, X)) r := by
  unfold zM_about_l30_b at h
  refine iq_G_go (k := 4) (σ' := (37, [some (.ref 76), some (.int x1), some (.int x2), some (.int x3), some (.int x4)], [.int x3, .ref 98, .int x4], (iq_sh l, I, J, X))) (fun _ => rfl) ?_
  obtain ⟨hc_, h⟩ := iq_itn h
  refine iq_G_pos (c := iq_in x3 206) (σ1 := (38, [some (.ref 76), some (.int x1), some (.int x2), some (.int x3), some (.int x4)], [.int (I 98 (Int32.toNatClampNeg x3)), .int x4], (iq_sh l, I, J, X))) (fun _ => rfl) hc_ ?_
  rcases iq_ite h with ⟨hc_, h⟩ | ⟨hc_, h⟩
  · refine iq_G_pos (c := (I 98 (Int32.toNatClampNeg x3)) ≤ x4) (σ1 := (72, [some (.ref 76), some (.int x1), some (.int x2), some (.int x3), some (.int x4)], [], (iq_sh l, I, J, X))) (fun _ => rfl) hc_ ?_
    cases h
    exact iq_G_fg (L := [some (.ref 76), some (.int x1), some (.int x2), some (.int x3), none]) (And.intro rfl (And.intro rfl (And.intro rfl (And.intro rfl trivial)))) (hx x2 rfl)
  · refine iq_G_neg (c := (I 98 (Int32.toNatClampNeg x3)) ≤ x4) (σ1 := (41, [some (.ref 76), some (.int x1), some (.int x2), some (.int x3), some (.int x4)], [], (iq_sh l, I, J, X))) (fun _ => rfl) hc_ ?_
    refine iq_G_go (k := 6) (σ' := (50, [some (.ref 76), some (.int x1), some (.int x2), some (.int x3), some (.int x4)], [.int x4, .int x3, .ref 98, .ref 76, .int x2], (iq_sh l, I, J, X))) (fun _ => rfl) ?_
    obtain ⟨q3, hq3, h⟩ := iq_bnd h
    refine iq_G_call (σ' := (53, [some (.ref 76), some (.int x1), some (.int x2), some (.int x3), some (.int x4)], [.int q3, .int x2], (iq_sh l, I, J, X))) (fun _ => rfl) (zM_wordAt_76_98_ok l x3 x4 I J X hq3) rfl rfl ?_
    refine iq_G_go (k := 1) (σ' := (54, [some (.ref 76), some (.int x1), some (.int x2), some (.int x3), some (.int x4)], [.int x1, .int q3, .int x2], (iq_sh l, I, J, X))) (fun _ => rfl) ?_
    rcases iq_ite h with ⟨hc_, h⟩ | ⟨hc_, h⟩
    · refine iq_G_pos (c := ¬ q3 = x1) (σ1 := (63, [some (.ref 76), some (.int x1), some (.int x2), some (.int x3), some (.int x4)], [.int x2], (iq_sh l, I, J, X))) (fun _ => rfl) hc_ ?_
      refine iq_G_go (k := 5) (σ' := (30, [some (.ref 76), some (.int x1), some (.int (x2 ||| (0 : Int32))), some (.int x3), some (.int (x4 + (1 : Int32)))], [], (iq_sh l, I, J, X))) (fun _ => rfl) ?_
      cases h
      exact iq_G_fg (L := [some (.ref 76), some (.int x1), some (.int (x2 ||| (0 : Int32))), some (.int x3), some (.int (x4 + (1 : Int32)))]) (And.intro rfl (And.intro rfl (And.intro rfl (And.intro rfl (And.intro rfl trivial))))) (hc ((x2 ||| (0 : Int32)), (x4 + (1 : Int32))) rfl)
    · refine iq_G_neg (c := ¬ q3 = x1) (σ1 := (57, [some (.ref 76), some (.int x1), some (.int x2), some (.int x3), some (.int x4)], [.int x2], (iq_sh l, I, J, X))) (fun _ => rfl) hc_ ?_
      refine iq_G_go (k := 8) (σ' := (30, [some (.ref 76), some (.int x1), some (.int (x2 ||| ((1 : Int32) <<< (x3 &&& 31)))), some (.int x3), some (.int (x4 + (1 : Int32)))], [], (iq_sh l, I, J, X))) (fun _ => rfl) ?_
      cases h
      exact iq_G_fg (L := [some (.ref 76), some (.int x1), some (.int (x2 ||| ((1 : Int32) <<< (x3 &&& 31)))), some (.int x3), some (.int (x4 + (1 : Int32)))]) (And.intro rfl (And.intro rfl (And.intro rfl (And.intro rfl (And.intro rfl trivial))))) (hc ((x2 ||| ((1 : Int32) <<< (x3 &&& 31))), (x4 + (1 : Int32))) rfl)
set_option maxRecDepth 100000 in
theorem zM_about_l30_ok (l : Nat)  (x1 : Int32) (x3 : Int32) (I : iq_I) (J : iq_J) (X : iq_X) {n : Nat} {v : Int32 × Int32} {w : Int32} (h : zM_about_l30 x1 x3 I n v = some w) (r : iq_R × iq_M) (hq : iq_Gg 2 304 (72, [some (.ref 76), some (.int x1), some (.int w), some (.int x3), none], [], (iq_sh l, I, J, X)) r) : iq_Gg 2 304 (30, [some (.ref 76), some (.int x1), some (.int v.1), some (.int x3), some (.int v.2)], [], (iq_sh l, I, J, X)) r :=
  iq_lp_ok (σ := fun v => (30, [some (.ref 76), some (.int x1), some (.int v.1), some (.int x3), some (.int v.2)], [], (iq_sh l, I, J, X))) (Q := fun w r => iq_Gg 2 304 (72, [some (.ref 76), some (.int x1), some (.int w), some (.int x3), none], [], (iq_sh l, I, J, X)) r) (fun v q hv r h1 h2 => zM_about_l30_bok l x1 x3 I J X v.1 v.2 hv r h1 h2) h r hq
set_option maxRecDepth 100000 in
theorem zM_about_l19_bok (l : Nat)  (x1 : Int32) (I : iq_I) (J : iq_J) (X : iq_X) (x2 : Int32) (x3 : Int32)  {q : (Int32 × Int32) ⊕ (Int32)} (h : zM_about_l19_b x1 I x2 x3 = some q) (r : iq_R × iq_M) (hc : ∀ v, q = .inl v → iq_Gg 2 304 (19, [some (.ref 76), some (.int x1), some (.int v.1), some (.int v.2), none], [], (iq_sh l, I, J, X)) r) (hx : ∀ w, q = .inr w → iq_Gg 2 304 (78, [none, none, some (.int w), none, none], [], (iq_sh l, I, J, X)) r) : iq_Gg 2 304 (19, [some (.ref 76), some (.int x1), some (.int x2), some (.int x3), none], [], (iq_sh l, I, J, X)) r := by
  unfold zM_about_l19_b at h
  refine iq_G_go (k := 3) (σ' := (24, [some (.ref 76), some (.int x1), some (.int x2), some (.int x3), none], [.int (I 76 5), .int x3], (iq_sh l, I, J, X))) (fun _ => rfl) ?_
  rcases iq_ite h with ⟨hc_, h⟩ | ⟨hc_, h⟩
  · refine iq_G_pos (c := (I 76 5) ≤ x3) (σ1 := (78, [some (.ref 76), some (.int x1), some (.int x2), some (.int x3), none], [], (iq_sh l, I, J, X))) (fun _ => rfl) hc_ ?_
    cases h
    exact iq_G_fg (L := [none, none, some (.int x2), none, none]) (And.intro rfl trivial) (hx x2 rfl)
  · refine iq_G_neg (c := (I 76 5) ≤ x3) (σ1 := (27, [some (.ref 76), some (.int x1), some (.int x2), some (.int x3), none], [], (iq_sh l, I, J, X))) (fun _ => rfl) hc_ ?_
    refine iq_G_go (k := 2) (σ' := (30, [some (.ref 76), some (.int x1), some (.int x2), some (.int x3), some (.int (0 : Int32))], [], (iq_sh l, I, J, X))) (fun _ => rfl) ?_
    obtain ⟨w4, hw4, h⟩ := iq_bnd h
    refine iq_G_fg (L := [some (.ref 76), some (.int x1), some (.int x2), some (.int x3), some (.int (0 : Int32))]) (And.intro rfl (And.intro rfl (And.intro rfl (And.intro rfl (And.intro rfl trivial))))) ?_
    refine zM_about_l30_ok l x1 x3 I J X hw4 _ ?_
    show iq_Gg 2 304 (72, [some (.ref 76), some (.int x1), some (.int w4), some (.int x3), none], [], (iq_sh l, I, J, X)) _
    refine iq_G_go (k := 2) (σ' := (19, [some (.ref 76), some (.int x1), some (.int w4), some (.int (x3 + (1 : Int32))), none], [], (iq_sh l, I, J, X))) (fun _ => rfl) ?_
    cases h
    exact iq_G_fg (L := [some (.ref 76), some (.int x1), some (.int w4), some (.int (x3 + (1 : Int32))), none]) (And.intro rfl (And.intro rfl (And.intro rfl (And.intro rfl trivial)))) (hc (w4, (x3 + (1 : Int32))) rfl)
set_option maxRecDepth 100000 in
theorem zM_about_l19_ok (l : Nat)  (x1 : Int32) (I : iq_I) (J : iq_J) (X : iq_X) {n : Nat} {v : Int32 × Int32} {w : Int32} (h : zM_about_l19 x1 I n v = some w) (r : iq_R × iq_M) (hq : iq_Gg 2 304 (78, [none, none, some (.int w), none, none], [], (iq_sh l, I, J, X)) r) : iq_Gg 2 304 (19, [some (.ref 76), some (.int x1), some (.int v.1), some (.int v.2), none], [], (iq_sh l, I, J, X)) r :=
  iq_lp_ok (σ := fun v => (19, [some (.ref 76), some (.int x1), some (.int v.1), some (.int v.2), none], [], (iq_sh l, I, J, X))) (Q := fun w r => iq_Gg 2 304 (78, [none, none, some (.int w), none, none], [], (iq_sh l, I, J, X)) r) (fun v q hv r h1 h2 => zM_about_l19_bok l x1 I J X v.1 v.2 hv r h1 h2) h r hq
set_option maxRecDepth 100000 in
theorem zM_about_ok (l : Nat)  (x1 : Int32) (I : iq_I) (J : iq_J) (X : iq_X) {q : Int32 × iq_I} (h : zM_about x1 I = some q) : iq_Cc 3 304 [.ref 76, .int x1] (iq_sh l, I, J, X) (.inl (some (.int q.1)), (iq_sh l, q.2, J, X)) := by
  refine iq_Cc_of (L := [some (.ref 76), some (.int x1), none, none, none]) rfl rfl ?_
  unfold zM_about at h
  refine iq_G_go (k := 2) (σ' := (2, [some (.ref 76), some (.int x1), none, none, none], [.int (0 : Int32), .ref 76], (iq_sh l, I, J, X))) (fun _ => rfl) ?_
  refine iq_G_go (k := 1) (σ' := (5, [some (.ref 76), some (.int x1), none, none, none], [], (iq_sh l, (iq_upI I 76 0 (0 : Int32)), J, X))) (fun _ => rfl) ?_
  obtain ⟨I1, eI1, h⟩ := ir_letG h
  rw [← eI1]
  clear eI1
  refine iq_G_go (k := 2) (σ' := (7, [some (.ref 76), some (.int x1), none, none, none], [.int x1, .ref 76], (iq_sh l, I1, J, X))) (fun _ => rfl) ?_
  obtain ⟨q2, hq2, h⟩ := iq_bnd h
  refine iq_G_call (σ' := (10, [some (.ref 76), some (.int x1), none, none, none], [.int q2.1], (iq_sh l, q2.2, J, X))) (fun _ => rfl) (zM_isWord_ok l x1 I1 J X hq2) rfl rfl ?_
  rcases iq_ite h with ⟨hc_, h⟩ | ⟨hc_, h⟩
  · refine iq_G_pos (c := ¬ q2.1 = 0) (σ1 := (15, [some (.ref 76), some (.int x1), none, none, none], [], (iq_sh l, q2.2, J, X))) (fun _ => rfl) hc_ ?_
    refine iq_G_go (k := 4) (σ' := (19, [some (.ref 76), some (.int x1), some (.int (0 : Int32)), some (.int (0 : Int32)), none], [], (iq_sh l, q2.2, J, X))) (fun _ => rfl) ?_
    obtain ⟨w5, hw5, h⟩ := iq_bnd h
    refine iq_G_fg (L := [some (.ref 76), some (.int x1), some (.int (0 : Int32)), some (.int (0 : Int32)), none]) (And.intro rfl (And.intro rfl (And.intro rfl (And.intro rfl trivial)))) ?_
    refine zM_about_l19_ok l x1 q2.2 J X hw5 _ ?_
    show iq_Gg 2 304 (78, [none, none, some (.int w5), none, none], [], (iq_sh l, q2.2, J, X)) _
    refine iq_G_go (k := 1) (σ' := (79, [none, none, some (.int w5), none, none], [.int w5], (iq_sh l, q2.2, J, X))) (fun _ => rfl) ?_
    cases h
    exact iq_G_ret (fun _ => rfl)
  · refine iq_G_neg (c := ¬ q2.1 = 0) (σ1 := (13, [some (.ref 76), some (.int x1), none, none, none], [], (iq_sh l, q2.2, J, X))) (fun _ => rfl) hc_ ?_
    refine iq_G_go (k := 1) (σ' := (14, [some (.ref 76), some (.int x1), none, none, none], [.int (0 : Int32)], (iq_sh l, q2.2, J, X))) (fun _ => rfl) ?_
    cases h
    exact iq_G_ret (fun _ => rfl)
set_option maxRecDepth 100000 in
theorem zO_needOneOfTwo_ok (l : Nat)  (x1 : Int32) (I : iq_I) (J : iq_J) (X : iq_X) {q : (Unit ⊕ Nat) × iq_X} (h : zO_needOneOfTwo x1 I X = some q) : iq_Cc 1 198 [.ref 1, .int x1] (iq_sh l, I, J, X) ((ir_Rv q.1), (iq_sh l, I, J, q.2)) := by
  refine iq_Cc_of (L := [some (.ref 1), some (.int x1)]) rfl rfl ?_
  unfold zO_needOneOfTwo at h
  refine iq_G_go (k := 1) (σ' := (1, [some (.ref 1), some (.int x1)], [.int x1], (iq_sh l, I, J, X))) (fun _ => rfl) ?_
  rcases iq_ite h with ⟨hc_, h⟩ | ⟨hc_, h⟩
  · refine iq_G_pos (c := x1 = 0) (σ1 := (20, [some (.ref 1), some (.int x1)], [], (iq_sh l, I, J, X))) (fun _ => rfl) hc_ ?_
    cases h
    exact iq_G_ret (fun _ => rfl)
  · refine iq_G_neg (c := x1 = 0) (σ1 := (4, [some (.ref 1), some (.int x1)], [], (iq_sh l, I, J, X))) (fun _ => rfl) hc_ ?_
    refine iq_G_go (k := 2) (σ' := (6, [some (.ref 1), some (.int x1)], [.int (1 : Int32), .int x1], (iq_sh l, I, J, X))) (fun _ => rfl) ?_
    rcases iq_ite h with ⟨hc_, h⟩ | ⟨hc_, h⟩
    · refine iq_G_pos (c := x1 = (1 : Int32)) (σ1 := (20, [some (.ref 1), some (.int x1)], [], (iq_sh l, I, J, X))) (fun _ => rfl) hc_ ?_
      cases h
      exact iq_G_ret (fun _ => rfl)
    · refine iq_G_neg (c := x1 = (1 : Int32)) (σ1 := (9, [some (.ref 1), some (.int x1)], [], (iq_sh l, I, J, X))) (fun _ => rfl) hc_ ?_
      cases h
      exact iq_G_ret (fun _ => rfl)
set_option maxRecDepth 100000 in
theorem zG_lengthOf_16_ok (l : Nat)  (x1 : Int32) (I : iq_I) (J : iq_J) (X : iq_X) {q : Int32} (h : zG_lengthOf_16 x1 I = some q) : iq_Cc 1 9 [.ref 16, .int x1] (iq_sh l, I, J, X) (.inl (some (.int q)), (iq_sh l, I, J, X)) := by
  refine iq_Cc_of (L := [some (.ref 16), some (.int x1)]) rfl rfl ?_
  unfold zG_lengthOf_16 at h
  refine iq_G_go (k := 1) (σ' := (1, [some (.ref 16), some (.int x1)], [.int x1], (iq_sh l, I, J, X))) (fun _ => rfl) ?_
  rcases iq_ite h with ⟨hc_, h⟩ | ⟨hc_, h⟩
  · refine iq_G_pos (c := x1 < 0) (σ1 := (12, [some (.ref 16), some (.int x1)], [], (iq_sh l, I, J, X))) (fun _ => rfl) hc_ ?_
    refine iq_G_go (k := 2) (σ' := (22, [some (.ref 16), some (.int x1)], [.int (0 : Int32)], (iq_sh l, I, J, X))) (fun _ => rfl) ?_
    cases h
    exact iq_G_ret (fun _ => rfl)
  · refine iq_G_neg (c := x1 < 0) (σ1 := (4, [some (.ref 16), some (.int x1)], [], (iq_sh l, I, J, X))) (fun _ => rfl) hc_ ?_
    refine iq_G_go (k := 3) (σ' := (9, [some (.ref 16), some (.int x1)], [.int (I 16 0), .int x1], (iq_sh l, I, J, X))) (fun _ => rfl) ?_
    rcases iq_ite h with ⟨hc_, h⟩ | ⟨hc_, h⟩
    · refine iq_G_pos (c := x1 < (I 16 0)) (σ1 := (16, [some (.ref 16), some (.int x1)], [], (iq_sh l, I, J, X))) (fun _ => rfl) hc_ ?_
      refine iq_G_go (k := 3) (σ' := (21, [some (.ref 16), some (.int x1)], [.int x1, .ref 18], (iq_sh l, I, J, X))) (fun _ => rfl) ?_
      obtain ⟨hc_, h⟩ := iq_itn h
      refine iq_G_pos (c := iq_in x1 5) (σ1 := (22, [some (.ref 16), some (.int x1)], [.int (I 18 (Int32.toNatClampNeg x1))], (iq_sh l, I, J, X))) (fun _ => rfl) hc_ ?_
      cases h
      exact iq_G_ret (fun _ => rfl)
    · refine iq_G_neg (c := x1 < (I 16 0)) (σ1 := (12, [some (.ref 16), some (.int x1)], [], (iq_sh l, I, J, X))) (fun _ => rfl) hc_ ?_
      refine iq_G_go (k := 2) (σ' := (22, [some (.ref 16), some (.int x1)], [.int (0 : Int32)], (iq_sh l, I, J, X))) (fun _ => rfl) ?_
      cases h
      exact iq_G_ret (fun _ => rfl)
set_option maxRecDepth 100000 in
theorem zS_J7_fill_53178_73_l5_bok (l : Nat)  (x1 : Int32) (x3 : Int32) (J : iq_J) (X : iq_X) (x2 : Int32) (I : iq_I) {q : (Int32 × iq_I) ⊕ (iq_I)} (h : zS_J7_fill_53178_73_l5_b x1 x3 x2 I = some q) (r : iq_R × iq_M) (hc : ∀ v, q = .inl v → iq_Gg 0 323 (5, [some (.ref 73), some (.int x1), some (.int v.1), some (.int x3)], [], (iq_sh l, v.2, J, X)) r) (hx : ∀ w, q = .inr w → iq_Gg 0 323 (20, [none, none, none, none], [], (iq_sh l, w, J, X)) r) : iq_Gg 0 323 (5, [some (.ref 73), some (.int x1), some (.int x2), some (.int x3)], [], (iq_sh l, I, J, X)) r := by
  unfold zS_J7_fill_53178_73_l5_b at h
  refine iq_G_go (k := 2) (σ' := (7, [some (.ref 73), some (.int x1), some (.int x2), some (.int x3)], [.int x3, .int x2], (iq_sh l, I, J, X))) (fun _ => rfl) ?_
  rcases iq_ite h with ⟨hc_, h⟩ | ⟨hc_, h⟩
  · refine iq_G_pos (c := x3 ≤ x2) (σ1 := (20, [some (.ref 73), some (.int x1), some (.int x2), some (.int x3)], [], (iq_sh l, I, J, X))) (fun _ => rfl) hc_ ?_
    cases h
    exact iq_G_fg (L := [none, none, none, none]) trivial (hx I rfl)
  · refine iq_G_neg (c := x3 ≤ x2) (σ1 := (10, [some (.ref 73), some (.int x1), some (.int x2), some (.int x3)], [], (iq_sh l, I, J, X))) (fun _ => rfl) hc_ ?_
    refine iq_G_go (k := 3) (σ' := (13, [some (.ref 73), some (.int x1), some (.int x2), some (.int x3)], [.int x1, .int x2, .ref 73], (iq_sh l, I, J, X))) (fun _ => rfl) ?_
    obtain ⟨hc_, h⟩ := iq_itn h
    refine iq_G_pos (c := iq_in x2 41) (σ1 := (14, [some (.ref 73), some (.int x1), some (.int x2), some (.int x3)], [], (iq_sh l, (iq_upI I 73 (Int32.toNatClampNeg x2) x1), J, X))) (fun _ => rfl) hc_ ?_
    obtain ⟨I1, eI1, h⟩ := ir_letG h
    rw [← eI1]
    clear eI1
    refine iq_G_go (k := 2) (σ' := (5, [some (.ref 73), some (.int x1), some (.int (x2 + (1 : Int32))), some (.int x3)], [], (iq_sh l, I1, J, X))) (fun _ => rfl) ?_
    cases h
    exact iq_G_fg (L := [some (.ref 73), some (.int x1), some (.int (x2 + (1 : Int32))), some (.int x3)]) (And.intro rfl (And.intro rfl (And.intro rfl (And.intro rfl trivial)))) (hc ((x2 + (1 : Int32)), I1) rfl)
set_option maxRecDepth 100000 in
theorem zS_J7_fill_53178_73_l5_ok (l : Nat)  (x1 : Int32) (x3 : Int32) (J : iq_J) (X : iq_X) {n : Nat} {v : Int32 × iq_I} {w : iq_I} (h : zS_J7_fill_53178_73_l5 x1 x3 n v = some w) (r : iq_R × iq_M) (hq : iq_Gg 0 323 (20, [none, none, none, none], [], (iq_sh l, w, J, X)) r) : iq_Gg 0 323 (5, [some (.ref 73), some (.int x1), some (.int v.1), some (.int x3)], [], (iq_sh l, v.2, J, X)) r :=
  iq_lp_ok (σ := fun v => (5, [some (.ref 73), some (.int x1), some (.int v.1), some (.int x3)], [], (iq_sh l, v.2, J, X))) (Q := fun w r => iq_Gg 0 323 (20, [none, none, none, none], [], (iq_sh l, w, J, X)) r) (fun v q hv r h1 h2 => zS_J7_fill_53178_73_l5_bok l x1 x3 J X v.1 v.2 hv r h1 h2) h r hq
set_option maxRecDepth 100000 in
theorem zS_J7_fill_53178_73_ok (l : Nat)  (x1 : Int32) (I : iq_I) (J : iq_J) (X : iq_X) {q : iq_I} (h : zS_J7_fill_53178_73 x1 I = some q) : iq_Cc 1 323 [.ref 73, .int x1] (iq_sh l, I, J, X) (.inl none, (iq_sh l, q, J, X)) := by
  refine iq_Cc_of (L := [some (.ref 73), some (.int x1), none, none]) rfl rfl ?_
  unfold zS_J7_fill_53178_73 at h
  refine iq_G_go (k := 5) (σ' := (5, [some (.ref 73), some (.int x1), some (.int (0 : Int32)), some (.int (41 : Int32))], [], (iq_sh l, I, J, X))) (fun _ => rfl) ?_
  obtain ⟨w2, hw2, h⟩ := iq_bnd h
  refine iq_G_fg (L := [some (.ref 73), some (.int x1), some (.int (0 : Int32)), some (.int (41 : Int32))]) (And.intro rfl (And.intro rfl (And.intro rfl (And.intro rfl trivial)))) ?_
  refine zS_J7_fill_53178_73_l5_ok l x1 (41 : Int32) J X hw2 _ ?_
  show iq_Gg 0 323 (20, [none, none, none, none], [], (iq_sh l, w2, J, X)) _
  cases h
  exact iq_G_ret (fun _ => rfl)

