/-! ===== the abstract machine does the same (printed by wip/whole/emitall.py, split.py) ===== -/
set_option maxRecDepth 100000 in
theorem zS_J7_fill_53178_44_l5_bok (l : Nat)  (x1 : Int32) (x3 : Int32) (J : iq_J) (X : iq_X) (x2 : Int32) (I : iq_I) {q : (Int32 × iq_I) ⊕ (iq_I)} (h : zS_J7_fill_53178_44_l5_b x1 x3 x2 I = some q) (r : iq_R × iq_M) (hc : ∀ v, q = .inl v → iq_Gg 0 323 (5, [some (.ref 44), some (.int x1), some (.int v.1), some (.int x3)], [], (iq_sh l, v.2, J, X)) r) (hx : ∀ w, q = .inr w → iq_Gg 0 323 (20, [none, none, none, none], [], (iq_sh l, w, J, X)) r) : iq_Gg 0 323 (5, [some (.ref 44), some (.int x1), some (.int x2), some (.int x3)], [], (iq_sh l, I, J, X)) r := by
  unfold zS_J7_fill_53178_44_l5_b at h
  refine iq_G_go (k := 2) (σ' := (7, [some (.ref 44), some (.int x1), some (.int x2), some (.int x3)], [.int x3, .int x2], (iq_sh l, I, J, X))) (fun _ => rfl) ?_
  rcases iq_ite h with ⟨hc_, h⟩ | ⟨hc_, h⟩
  · refine iq_G_pos (c := x3 ≤ x2) (σ1 := (20, [some (.ref 44), some (.int x1), some (.int x2), some (.int x3)], [], (iq_sh l, I, J, X))) (fun _ => rfl) hc_ ?_
    cases h
    exact iq_G_fg (L := [none, none, none, none]) trivial (hx I rfl)
  · refine iq_G_neg (c := x3 ≤ x2) (σ1 := (10, [some (.ref 44), some (.int x1), some (.int x2), some (.int x3)], [], (iq_sh l, I, J, X))) (fun _ => rfl) hc_ ?_
    refine iq_G_go (k := 3) (σ' := (13, [some (.ref 44), some (.int x1), some (.int x2), some (.int x3)], [.int x1, .int x2, .ref 44], (iq_sh l, I, J, X))) (fun _ => rfl) ?_
    obtain ⟨hc_, h⟩ := iq_itn h
    refine iq_G_pos (c := iq_in x2 5) (σ1 := (14, [some (.ref 44), some (.int x1), some (.int x2), some (.int x3)], [], (iq_sh l, (iq_upI I 44 (Int32.toNatClampNeg x2) x1), J, X))) (fun _ => rfl) hc_ ?_
    obtain ⟨I1, eI1, h⟩ := ir_letG h
    rw [← eI1]
    clear eI1
    refine iq_G_go (k := 2) (σ' := (5, [some (.ref 44), some (.int x1), some (.int (x2 + (1 : Int32))), some (.int x3)], [], (iq_sh l, I1, J, X))) (fun _ => rfl) ?_
    cases h
    exact iq_G_fg (L := [some (.ref 44), some (.int x1), some (.int (x2 + (1 : Int32))), some (.int x3)]) (And.intro rfl (And.intro rfl (And.intro rfl (And.intro rfl trivial)))) (hc ((x2 + (1 : Int32)), I1) rfl)
set_option maxRecDepth 100000 in
theorem zS_J7_fill_53178_44_l5_ok (l : Nat)  (x1 : Int32) (x3 : Int32) (J : iq_J) (X : iq_X) {n : Nat} {v : Int32 × iq_I} {w : iq_I} (h : zS_J7_fill_53178_44_l5 x1 x3 n v = some w) (r : iq_R × iq_M) (hq : iq_Gg 0 323 (20, [none, none, none, none], [], (iq_sh l, w, J, X)) r) : iq_Gg 0 323 (5, [some (.ref 44), some (.int x1), some (.int v.1), some (.int x3)], [], (iq_sh l, v.2, J, X)) r :=
  iq_lp_ok (σ := fun v => (5, [some (.ref 44), some (.int x1), some (.int v.1), some (.int x3)], [], (iq_sh l, v.2, J, X))) (Q := fun w r => iq_Gg 0 323 (20, [none, none, none, none], [], (iq_sh l, w, J, X)) r) (fun v q hv r h1 h2 => zS_J7_fill_53178_44_l5_bok l x1 x3 J X v.1 v.2 hv r h1 h2) h r hq
set_option maxRecDepth 100000 in
theorem zS_J7_fill_53178_44_ok (l : Nat)  (x1 : Int32) (I : iq_I) (J : iq_J) (X : iq_X) {q : iq_I} (h : zS_J7_fill_53178_44 x1 I = some q) : iq_Cc 1 323 [.ref 44, .int x1] (iq_sh l, I, J, X) (.inl none, (iq_sh l, q, J, X)) := by
  refine iq_Cc_of (L := [some (.ref 44), some (.int x1), none, none]) rfl rfl ?_
  unfold zS_J7_fill_53178_44 at h
  refine iq_G_go (k := 5) (σ' := (5, [some (.ref 44), some (.int x1), some (.int (0 : Int32)), some (.int (5 : Int32))], [], (iq_sh l, I, J, X))) (fun _ => rfl) ?_
  obtain ⟨w2, hw2, h⟩ := iq_bnd h
  refine iq_G_fg (L := [some (.ref 44), some (.int x1), some (.int (0 : Int32)), some (.int (5 : Int32))]) (And.intro rfl (And.intro rfl (And.intro rfl (And.intro rfl trivial)))) ?_
  refine zS_J7_fill_53178_44_l5_ok l x1 (5 : Int32) J X hw2 _ ?_
  show iq_Gg 0 323 (20, [none, none, none, none], [], (iq_sh l, w2, J, X)) _
  cases h
  exact iq_G_ret (fun _ => rfl)
set_option maxRecDepth 100000 in
theorem zS_J7_fill_53178_45_l5_bok (l : Nat)  (x1 : Int32) (x3 : Int32) (J : iq_J) (X : iq_X) (x2 : Int32) (I : iq_I) {q : (Int32 × iq_I) ⊕ (iq_I)} (h : zS_J7_fill_53178_45_l5_b x1 x3 x2 I = some q) (r : iq_R × iq_M) (hc : ∀ v, q = .inl v → iq_Gg 0 323 (5, [some (.ref 45), some (.int x1), some (.int v.1), some (.int x3)], [], (iq_sh l, v.2, J, X)) r) (hx : ∀ w, q = .inr w → iq_Gg 0 323 (20, [none, none, none, none], [], (iq_sh l, w, J, X)) r) : iq_Gg 0 323 (5, [some (.ref 45), some (.int x1), some (.int x2), some (.int x3)], [], (iq_sh l, I, J, X)) r := by
  unfold zS_J7_fill_53178_45_l5_b at h
  refine iq_G_go (k := 2) (σ' := (7, [some (.ref 45), some (.int x1), some (.int x2), some (.int x3)], [.int x3, .int x2], (iq_sh l, I, J, X))) (fun _ => rfl) ?_
  rcases iq_ite h with ⟨hc_, h⟩ | ⟨hc_, h⟩
  · refine iq_G_pos (c := x3 ≤ x2) (σ1 := (20, [some (.ref 45), some (.int x1), some (.int x2), some (.int x3)], [], (iq_sh l, I, J, X))) (fun _ => rfl) hc_ ?_
    cases h
    exact iq_G_fg (L := [none, none, none, none]) trivial (hx I rfl)
  · refine iq_G_neg (c := x3 ≤ x2) (σ1 := (10, [some (.ref 45), some (.int x1), some (.int x2), some (.int x3)], [], (iq_sh l, I, J, X))) (fun _ => rfl) hc_ ?_
    refine iq_G_go (k := 3) (σ' := (13, [some (.ref 45), some (.int x1), some (.int x2), some (.int x3)], [.int x1, .int x2, .ref 45], (iq_sh l, I, J, X))) (fun _ => rfl) ?_
    obtain ⟨hc_, h⟩ := iq_itn h
    refine iq_G_pos (c := iq_in x2 5) (σ1 := (14, [some (.ref 45), some (.int x1), some (.int x2), some (.int x3)], [], (iq_sh l, (iq_upI I 45 (Int32.toNatClampNeg x2) x1), J, X))) (fun _ => rfl) hc_ ?_
    obtain ⟨I1, eI1, h⟩ := ir_letG h
    rw [← eI1]
    clear eI1
    refine iq_G_go (k := 2) (σ' := (5, [some (.ref 45), some (.int x1), some (.int (x2 + (1 : Int32))), some (.int x3)], [], (iq_sh l, I1, J, X))) (fun _ => rfl) ?_
    cases h
    exact iq_G_fg (L := [some (.ref 45), some (.int x1), some (.int (x2 + (1 : Int32))), some (.int x3)]) (And.intro rfl (And.intro rfl (And.intro rfl (And.intro rfl trivial)))) (hc ((x2 + (1 : Int32)), I1) rfl)
set_option maxRecDepth 100000 in
theorem zS_J7_fill_53178_45_l5_ok (l : Nat)  (x1 : Int32) (x3 : Int32) (J : iq_J) (X : iq_X) {n : Nat} {v : Int32 × iq_I} {w : iq_I} (h : zS_J7_fill_53178_45_l5 x1 x3 n v = some w) (r : iq_R × iq_M) (hq : iq_Gg 0 323 (20, [none, none, none, none], [], (iq_sh l, w, J, X)) r) : iq_Gg 0 323 (5, [some (.ref 45), some (.int x1), some (.int v.1), some (.int x3)], [], (iq_sh l, v.2, J, X)) r :=
  iq_lp_ok (σ := fun v => (5, [some (.ref 45), some (.int x1), some (.int v.1), some (.int x3)], [], (iq_sh l, v.2, J, X))) (Q := fun w r => iq_Gg 0 323 (20, [none, none, none, none], [], (iq_sh l, w, J, X)) r) (fun v q hv r h1 h2 => zS_J7_fill_53178_45_l5_bok l x1 x3 J X v.1 v.2 hv r h1 h2) h r hq
set_option maxRecDepth 100000 in
theorem zS_J7_fill_53178_45_ok (l : Nat)  (x1 : Int32) (I : iq_I) (J : iq_J) (X : iq_X) {q : iq_I} (h : zS_J7_fill_53178_45 x1 I = some q) : iq_Cc 1 323 [.ref 45, .int x1] (iq_sh l, I, J, X) (.inl none, (iq_sh l, q, J, X)) := by
  refine iq_Cc_of (L := [some (.ref 45), some (.int x1), none, none]) rfl rfl ?_
  unfold zS_J7_fill_53178_45 at h
  refine iq_G_go (k := 5) (σ' := (5, [some (.ref 45), some (.int x1), some (.int (0 : Int32)), some (.int (5 : Int32))], [], (iq_sh l, I, J, X))) (fun _ => rfl) ?_
  obtain ⟨w2, hw2, h⟩ := iq_bnd h
  refine iq_G_fg (L := [some (.ref 45), some (.int x1), some (.int (0 : Int32)), some (.int (5 : Int32))]) (And.intro rfl (And.intro rfl (And.intro rfl (And.intro rfl trivial)))) ?_
  refine zS_J7_fill_53178_45_l5_ok l x1 (5 : Int32) J X hw2 _ ?_
  show iq_Gg 0 323 (20, [none, none, none, none], [], (iq_sh l, w2, J, X)) _
  cases h
  exact iq_G_ret (fun _ => rfl)
set_option maxRecDepth 100000 in
theorem zE_clear_ok (l : Nat)   (I : iq_I) (J : iq_J) (X : iq_X) {q : iq_I} (h : zE_clear I = some q) : iq_Cc 2 128 [.ref 42] (iq_sh l, I, J, X) (.inl none, (iq_sh l, q, J, X)) := by
  refine iq_Cc_of (L := [some (.ref 42)]) rfl rfl ?_
  unfold zE_clear at h
  refine iq_G_go (k := 2) (σ' := (2, [some (.ref 42)], [.int (0 : Int32), .ref 42], (iq_sh l, I, J, X))) (fun _ => rfl) ?_
  refine iq_G_go (k := 1) (σ' := (5, [some (.ref 42)], [], (iq_sh l, (iq_upI I 42 0 (0 : Int32)), J, X))) (fun _ => rfl) ?_
  obtain ⟨I1, eI1, h⟩ := ir_letG h
  rw [← eI1]
  clear eI1
  refine iq_G_go (k := 2) (σ' := (7, [some (.ref 42)], [.int (0 : Int32), .ref 42], (iq_sh l, I1, J, X))) (fun _ => rfl) ?_
  refine iq_G_go (k := 1) (σ' := (10, [some (.ref 42)], [], (iq_sh l, (iq_upI I1 42 1 (0 : Int32)), J, X))) (fun _ => rfl) ?_
  obtain ⟨I2, eI2, h⟩ := ir_letG h
  rw [← eI2]
  clear eI2
  refine iq_G_go (k := 2) (σ' := (12, [some (.ref 42)], [.int (0 : Int32), .ref 42], (iq_sh l, I2, J, X))) (fun _ => rfl) ?_
  refine iq_G_go (k := 1) (σ' := (15, [some (.ref 42)], [], (iq_sh l, (iq_upI I2 42 2 (0 : Int32)), J, X))) (fun _ => rfl) ?_
  obtain ⟨I3, eI3, h⟩ := ir_letG h
  rw [← eI3]
  clear eI3
  refine iq_G_go (k := 3) (σ' := (20, [some (.ref 42)], [.int (0 : Int32), .ref 44], (iq_sh l, I3, J, X))) (fun _ => rfl) ?_
  obtain ⟨q4, hq4, h⟩ := iq_bnd h
  refine iq_G_call (σ' := (23, [some (.ref 42)], [], (iq_sh l, q4, J, X))) (fun _ => rfl) (zS_J7_fill_53178_44_ok l (0 : Int32) I3 J X hq4) rfl rfl ?_
  refine iq_G_go (k := 3) (σ' := (28, [some (.ref 42)], [.int (0 : Int32), .ref 45], (iq_sh l, q4, J, X))) (fun _ => rfl) ?_
  obtain ⟨q5, hq5, h⟩ := iq_bnd h
  refine iq_G_call (σ' := (31, [some (.ref 42)], [], (iq_sh l, q5, J, X))) (fun _ => rfl) (zS_J7_fill_53178_45_ok l (0 : Int32) q4 J X hq5) rfl rfl ?_
  cases h
  exact iq_G_ret (fun _ => rfl)
set_option maxRecDepth 100000 in
theorem zU_clear_ok (l : Nat)   (I : iq_I) (J : iq_J) (X : iq_X) {q : iq_I} (h : zU_clear I = some q) : iq_Cc 3 36 [.ref 38] (iq_sh l, I, J, X) (.inl none, (iq_sh l, q, J, X)) := by
  refine iq_Cc_of (L := [some (.ref 38)]) rfl rfl ?_
  unfold zU_clear at h
  refine iq_G_go (k := 2) (σ' := (2, [some (.ref 38)], [.int (0 : Int32), .ref 38], (iq_sh l, I, J, X))) (fun _ => rfl) ?_
  refine iq_G_go (k := 1) (σ' := (5, [some (.ref 38)], [], (iq_sh l, (iq_upI I 38 0 (0 : Int32)), J, X))) (fun _ => rfl) ?_
  obtain ⟨I1, eI1, h⟩ := ir_letG h
  rw [← eI1]
  clear eI1
  refine iq_G_go (k := 2) (σ' := (7, [some (.ref 38)], [.int (0 : Int32), .ref 38], (iq_sh l, I1, J, X))) (fun _ => rfl) ?_
  refine iq_G_go (k := 1) (σ' := (10, [some (.ref 38)], [], (iq_sh l, (iq_upI I1 38 1 (0 : Int32)), J, X))) (fun _ => rfl) ?_
  obtain ⟨I2, eI2, h⟩ := ir_letG h
  rw [← eI2]
  clear eI2
  refine iq_G_go (k := 2) (σ' := (12, [some (.ref 38)], [.int (0 : Int32), .ref 38], (iq_sh l, I2, J, X))) (fun _ => rfl) ?_
  refine iq_G_go (k := 1) (σ' := (15, [some (.ref 38)], [], (iq_sh l, (iq_upI I2 38 2 (0 : Int32)), J, X))) (fun _ => rfl) ?_
  obtain ⟨I3, eI3, h⟩ := ir_letG h
  rw [← eI3]
  clear eI3
  refine iq_G_go (k := 2) (σ' := (17, [some (.ref 38)], [.int (0 : Int32), .ref 38], (iq_sh l, I3, J, X))) (fun _ => rfl) ?_
  refine iq_G_go (k := 1) (σ' := (20, [some (.ref 38)], [], (iq_sh l, (iq_upI I3 38 3 (0 : Int32)), J, X))) (fun _ => rfl) ?_
  obtain ⟨I4, eI4, h⟩ := ir_letG h
  rw [← eI4]
  clear eI4
  refine iq_G_go (k := 2) (σ' := (22, [some (.ref 38)], [.int (0 : Int32), .ref 38], (iq_sh l, I4, J, X))) (fun _ => rfl) ?_
  refine iq_G_go (k := 1) (σ' := (25, [some (.ref 38)], [], (iq_sh l, (iq_upI I4 38 4 (0 : Int32)), J, X))) (fun _ => rfl) ?_
  obtain ⟨I5, eI5, h⟩ := ir_letG h
  rw [← eI5]
  clear eI5
  refine iq_G_go (k := 2) (σ' := (27, [some (.ref 38)], [.int (0 : Int32), .ref 38], (iq_sh l, I5, J, X))) (fun _ => rfl) ?_
  refine iq_G_go (k := 1) (σ' := (30, [some (.ref 38)], [], (iq_sh l, (iq_upI I5 38 5 (0 : Int32)), J, X))) (fun _ => rfl) ?_
  obtain ⟨I6, eI6, h⟩ := ir_letG h
  rw [← eI6]
  clear eI6
  refine iq_G_go (k := 3) (σ' := (35, [some (.ref 38)], [.int (0 : Int32), .ref 41], (iq_sh l, I6, J, X))) (fun _ => rfl) ?_
  obtain ⟨q7, hq7, h⟩ := iq_bnd h
  refine iq_G_call (σ' := (38, [some (.ref 38)], [], (iq_sh l, q7, J, X))) (fun _ => rfl) (zS_J7_fill_53178_41_ok l (0 : Int32) I6 J X hq7) rfl rfl ?_
  refine iq_G_go (k := 3) (σ' := (43, [some (.ref 38)], [.int (-1 : Int32), .ref 48], (iq_sh l, q7, J, X))) (fun _ => rfl) ?_
  obtain ⟨q8, hq8, h⟩ := iq_bnd h
  refine iq_G_call (σ' := (46, [some (.ref 38)], [], (iq_sh l, q8, J, X))) (fun _ => rfl) (zS_J7_fill_53178_48_ok l (-1 : Int32) q7 J X hq8) rfl rfl ?_
  refine iq_G_go (k := 3) (σ' := (51, [some (.ref 38)], [.int (1 : Int32), .ref 49], (iq_sh l, q8, J, X))) (fun _ => rfl) ?_
  obtain ⟨q9, hq9, h⟩ := iq_bnd h
  refine iq_G_call (σ' := (54, [some (.ref 38)], [], (iq_sh l, q9, J, X))) (fun _ => rfl) (zS_J7_fill_53178_49_ok l (1 : Int32) q8 J X hq9) rfl rfl ?_
  refine iq_G_go (k := 2) (σ' := (58, [some (.ref 38)], [.ref 42], (iq_sh l, q9, J, X))) (fun _ => rfl) ?_
  obtain ⟨q10, hq10, h⟩ := iq_bnd h
  refine iq_G_call (σ' := (61, [some (.ref 38)], [], (iq_sh l, q10, J, X))) (fun _ => rfl) (zE_clear_ok l  q9 J X hq10) rfl rfl ?_
  cases h
  exact iq_G_ret (fun _ => rfl)
set_option maxRecDepth 100000 in
theorem zG_clear_ok (l : Nat)   (I : iq_I) (J : iq_J) (X : iq_X) {q : iq_I} (h : zG_clear I = some q) : iq_Cc 1 5 [.ref 50] (iq_sh l, I, J, X) (.inl none, (iq_sh l, q, J, X)) := by
  refine iq_Cc_of (L := [some (.ref 50)]) rfl rfl ?_
  unfold zG_clear at h
  refine iq_G_go (k := 2) (σ' := (2, [some (.ref 50)], [.int (0 : Int32), .ref 50], (iq_sh l, I, J, X))) (fun _ => rfl) ?_
  refine iq_G_go (k := 1) (σ' := (5, [some (.ref 50)], [], (iq_sh l, (iq_upI I 50 0 (0 : Int32)), J, X))) (fun _ => rfl) ?_
  obtain ⟨I1, eI1, h⟩ := ir_letG h
  rw [← eI1]
  clear eI1
  refine iq_G_go (k := 2) (σ' := (7, [some (.ref 50)], [.int (0 : Int32), .ref 50], (iq_sh l, I1, J, X))) (fun _ => rfl) ?_
  refine iq_G_go (k := 1) (σ' := (10, [some (.ref 50)], [], (iq_sh l, (iq_upI I1 50 1 (0 : Int32)), J, X))) (fun _ => rfl) ?_
  obtain ⟨I2, eI2, h⟩ := ir_letG h
  rw [← eI2]
  clear eI2
  refine iq_G_go (k := 2) (σ' := (12, [some (.ref 50)], [.int (0 : Int32), .ref 50], (iq_sh l, I2, J, X))) (fun _ => rfl) ?_
  refine iq_G_go (k := 1) (σ' := (15, [some (.ref 50)], [], (iq_sh l, (iq_upI I2 50 2 (0 : Int32)), J, X))) (fun _ => rfl) ?_
  obtain ⟨I3, eI3, h⟩ := ir_letG h
  rw [← eI3]
  clear eI3
  refine iq_G_go (k := 3) (σ' := (20, [some (.ref 50)], [.int (0 : Int32), .ref 53], (iq_sh l, I3, J, X))) (fun _ => rfl) ?_
  refine iq_G_go (k := 1) (σ' := (23, [some (.ref 50)], [], (iq_sh l, (iq_upI I3 53 0 (0 : Int32)), J, X))) (fun _ => rfl) ?_
  obtain ⟨I4, eI4, h⟩ := ir_letG h
  rw [← eI4]
  clear eI4
  cases h
  exact iq_G_ret (fun _ => rfl)
set_option maxRecDepth 100000 in
theorem zT_isBlank_ok (l : Nat)  (x0 : Int32) (I : iq_I) (J : iq_J) (X : iq_X) {q : Int32} (h : zT_isBlank x0 I = some q) : iq_Cc 1 145 [.int x0] (iq_sh l, I, J, X) (.inl (some (.int q)), (iq_sh l, I, J, X)) := by
  refine iq_Cc_of (L := [some (.int x0)]) rfl rfl ?_
  unfold zT_isBlank at h
  refine iq_G_go (k := 2) (σ' := (3, [some (.int x0)], [.int (32 : Int32), .int x0], (iq_sh l, I, J, X))) (fun _ => rfl) ?_
  rcases iq_ite h with ⟨hc_, h⟩ | ⟨hc_, h⟩
  · refine iq_G_pos (c := x0 = (32 : Int32)) (σ1 := (12, [some (.int x0)], [], (iq_sh l, I, J, X))) (fun _ => rfl) hc_ ?_
    refine iq_G_go (k := 2) (σ' := (17, [some (.int x0)], [.int (1 : Int32)], (iq_sh l, I, J, X))) (fun _ => rfl) ?_
    cases h
    exact iq_G_ret (fun _ => rfl)
  · refine iq_G_neg (c := x0 = (32 : Int32)) (σ1 := (6, [some (.int x0)], [], (iq_sh l, I, J, X))) (fun _ => rfl) hc_ ?_
    refine iq_G_go (k := 2) (σ' := (9, [some (.int x0)], [.int (10 : Int32), .int x0], (iq_sh l, I, J, X))) (fun _ => rfl) ?_
    rcases iq_ite h with ⟨hc_, h⟩ | ⟨hc_, h⟩
    · refine iq_G_pos (c := ¬ x0 = (10 : Int32)) (σ1 := (16, [some (.int x0)], [], (iq_sh l, I, J, X))) (fun _ => rfl) hc_ ?_
      refine iq_G_go (k := 1) (σ' := (17, [some (.int x0)], [.int (0 : Int32)], (iq_sh l, I, J, X))) (fun _ => rfl) ?_
      cases h
      exact iq_G_ret (fun _ => rfl)
    · refine iq_G_neg (c := ¬ x0 = (10 : Int32)) (σ1 := (12, [some (.int x0)], [], (iq_sh l, I, J, X))) (fun _ => rfl) hc_ ?_
      refine iq_G_go (k := 2) (σ' := (17, [some (.int x0)], [.int (1 : Int32)], (iq_sh l, I, J, X))) (fun _ => rfl) ?_
      cases h
      exact iq_G_ret (fun _ => rfl)
set_option maxRecDepth 100000 in
theorem zT_isLetter_ok (l : Nat)  (x0 : Int32) (I : iq_I) (J : iq_J) (X : iq_X) {q : Int32} (h : zT_isLetter x0 I = some q) : iq_Cc 1 146 [.int x0] (iq_sh l, I, J, X) (.inl (some (.int q)), (iq_sh l, I, J, X)) := by
  refine iq_Cc_of (L := [some (.int x0)]) rfl rfl ?_
  unfold zT_isLetter at h
  refine iq_G_go (k := 2) (σ' := (3, [some (.int x0)], [.int (97 : Int32), .int x0], (iq_sh l, I, J, X))) (fun _ => rfl) ?_
  rcases iq_ite h with ⟨hc_, h⟩ | ⟨hc_, h⟩
  · refine iq_G_pos (c := x0 < (97 : Int32)) (σ1 := (16, [some (.int x0)], [], (iq_sh l, I, J, X))) (fun _ => rfl) hc_ ?_
    refine iq_G_go (k := 1) (σ' := (17, [some (.int x0)], [.int (0 : Int32)], (iq_sh l, I, J, X))) (fun _ => rfl) ?_
    cases h
    exact iq_G_ret (fun _ => rfl)
  · refine iq_G_neg (c := x0 < (97 : Int32)) (σ1 := (6, [some (.int x0)], [], (iq_sh l, I, J, X))) (fun _ => rfl) hc_ ?_
    refine iq_G_go (k := 2) (σ' := (9, [some (.int x0)], [.int (122 : Int32), .int x0], (iq_sh l, I, J, X))) (fun _ => rfl) ?_
    rcases iq_ite h with ⟨hc_, h⟩ | ⟨hc_, h⟩
    · refine iq_G_pos (c := (122 : Int32) < x0) (σ1 := (16, [some (.int x0)], [], (iq_sh l, I, J, X))) (fun _ => rfl) hc_ ?_
      refine iq_G_go (k := 1) (σ' := (17, [some (.int x0)], [.int (0 : Int32)], (iq_sh l, I, J, X))) (fun _ => rfl) ?_
      cases h
      exact iq_G_ret (fun _ => rfl)
    · refine iq_G_neg (c := (122 : Int32) < x0) (σ1 := (12, [some (.int x0)], [], (iq_sh l, I, J, X))) (fun _ => rfl) hc_ ?_
      refine iq_G_go (k := 2) (σ' := (17, [some (.int x0)], [.int (1 : Int32)], (iq_sh l, I, J, X))) (fun _ => rfl) ?_
      cases h
      exact iq_G_ret (fun _ => rfl)
set_option maxRecDepth 100000 in
theorem zT_isDigit_ok (l : Nat)  (x0 : Int32) (I : iq_I) (J : iq_J) (X : iq_X) {q : Int32} (h : zT_isDigit x0 I = some q) : iq_Cc 1 147 [.int x0] (iq_sh l, I, J, X) (.inl (some (.int q)), (iq_sh l, I, J, X)) := by
  refine iq_Cc_of (L := [some (.int x0)]) rfl rfl ?_
  unfold zT_isDigit at h
  refine iq_G_go (k := 2) (σ' := (3, [some (.int x0)], [.int (48 : Int32), .int x0], (iq_sh l, I, J, X))) (fun _ => rfl) ?_
  rcases iq_ite h with ⟨hc_, h⟩ | ⟨hc_, h⟩
  · refine iq_G_pos (c := x0 < (48 : Int32)) (σ1 := (16, [some (.int x0)], [], (iq_sh l, I, J, X))) (fun _ => rfl) hc_ ?_
    refine iq_G_go (k := 1) (σ' := (17, [some (.int x0)], [.int (0 : Int32)], (iq_sh l, I, J, X))) (fun _ => rfl) ?_
    cases h
    exact iq_G_ret (fun _ => rfl)
  · refine iq_G_neg (c := x0 < (48 : Int32)) (σ1 := (6, [some (.int x0)], [], (iq_sh l, I, J, X))) (fun _ => rfl) hc_ ?_
    refine iq_G_go (k := 2) (σ' := (9, [some (.int x0)], [.int (57 : Int32), .int x0], (iq_sh l, I, J, X))) (fun _ => rfl) ?_
    rcases iq_ite h with ⟨hc_, h⟩ | ⟨hc_, h⟩
    · refine iq_G_pos (c := (57 : Int32) < x0) (σ1 := (16, [some (.int x0)], [], (iq_sh l, I, J, X))) (fun _ => rfl) hc_ ?_
      refine iq_G_go (k := 1) (σ' := (17, [some (.int x0)], [.int (0 : Int32)], (iq_sh l, I, J, X))) (fun _ => rfl) ?_
      cases h
      exact iq_G_ret (fun _ => rfl)
    · refine iq_G_neg (c := (57 : Int32) < x0) (σ1 := (12, [some (.int x0)], [], (iq_sh l, I, J, X))) (fun _ => rfl) hc_ ?_
      refine iq_G_go (k := 2) (σ' := (17, [some (.int x0)], [.int (1 : Int32)], (iq_sh l, I, J, X))) (fun _ => rfl) ?_
      cases h
      exact iq_G_ret (fun _ => rfl)
set_option maxRecDepth 100000 in
theorem zS_J0_isLatin1_aae02_5001_ok (l : Nat)   (I : iq_I) (J : iq_J) (X : iq_X) {q : Int32} (h : zS_J0_isLatin1_aae02_5001 I = some q) : iq_Cc 1 317 [.ref 5001] (iq_sh l, I, J, X) (.inl (some (.int q)), (iq_sh l, I, J, X)) := by
  refine iq_Cc_of (L := [some (.ref 5001)]) rfl rfl ?_
  unfold zS_J0_isLatin1_aae02_5001 at h
  refine iq_G_go (k := 1) (σ' := (3, [some (.ref 5001)], [.int (1 : Int32)], (iq_sh l, I, J, X))) (fun _ => rfl) ?_
  refine iq_G_go (k := 1) (σ' := (6, [some (.ref 5001)], [], (iq_sh l, I, J, X))) (fun _ => rfl) ?_
  refine iq_G_go (k := 2) (σ' := (10, [some (.ref 5001)], [.int (0 : Int32)], (iq_sh l, I, J, X))) (fun _ => rfl) ?_
  refine iq_G_go (k := 1) (σ' := (13, [some (.ref 5001)], [], (iq_sh l, I, J, X))) (fun _ => rfl) ?_
  refine iq_G_go (k := 2) (σ' := (18, [some (.ref 5001)], [.int (1 : Int32)], (iq_sh l, I, J, X))) (fun _ => rfl) ?_
  cases h
  exact iq_G_ret (fun _ => rfl)
set_option maxRecDepth 100000 in
theorem zS_J0_coder_7d493_5001_ok (l : Nat)   (I : iq_I) (J : iq_J) (X : iq_X) {q : Int32} (h : zS_J0_coder_7d493_5001 I = some q) : iq_Cc 1 316 [.ref 5001] (iq_sh l, I, J, X) (.inl (some (.int q)), (iq_sh l, I, J, X)) := by
  refine iq_Cc_of (L := [some (.ref 5001)]) rfl rfl ?_
  unfold zS_J0_coder_7d493_5001 at h
  refine iq_G_go (k := 1) (σ' := (3, [some (.ref 5001)], [.int (1 : Int32)], (iq_sh l, I, J, X))) (fun _ => rfl) ?_
  refine iq_G_go (k := 1) (σ' := (6, [some (.ref 5001)], [], (iq_sh l, I, J, X))) (fun _ => rfl) ?_
  refine iq_G_go (k := 3) (σ' := (14, [some (.ref 5001)], [.int (0 : Int32)], (iq_sh l, I, J, X))) (fun _ => rfl) ?_
  cases h
  exact iq_G_ret (fun _ => rfl)
set_option maxRecDepth 100000 in
theorem zS_J0_length_8abf5_5001_ok (l : Nat)   (I : iq_I) (J : iq_J) (X : iq_X) {q : Int32} (h : zS_J0_length_8abf5_5001 I = some q) : iq_Cc 2 312 [.ref 5001] (iq_sh l, I, J, X) (.inl (some (.int q)), (iq_sh l, I, J, X)) := by
  refine iq_Cc_of (L := [some (.ref 5001)]) rfl rfl ?_
  unfold zS_J0_length_8abf5_5001 at h
  refine iq_G_go (k := 4) (σ' := (6, [some (.ref 5001)], [.ref 5001, .int (9 : Int32)], (iq_sh l, I, J, X))) (fun _ => rfl) ?_
  obtain ⟨q1, hq1, h⟩ := iq_bnd h
  refine iq_G_call (σ' := (9, [some (.ref 5001)], [.int q1, .int (9 : Int32)], (iq_sh l, I, J, X))) (fun _ => rfl) (zS_J0_coder_7d493_5001_ok l  I J X hq1) rfl rfl ?_
  refine iq_G_go (k := 1) (σ' := (10, [some (.ref 5001)], [.int ((9 : Int32) >>> (q1 &&& 31))], (iq_sh l, I, J, X))) (fun _ => rfl) ?_
  cases h
  exact iq_G_ret (fun _ => rfl)
set_option maxRecDepth 100000 in
theorem zS_J1_canEncode_9a6ad_ok (l : Nat)  (x0 : Int32) (I : iq_I) (J : iq_J) (X : iq_X) {q : Int32} (h : zS_J1_canEncode_9a6ad x0 I = some q) : iq_Cc 1 320 [.int x0] (iq_sh l, I, J, X) (.inl (some (.int q)), (iq_sh l, I, J, X)) := by
  refine iq_Cc_of (L := [some (.int x0)]) rfl rfl ?_
  unfold zS_J1_canEncode_9a6ad at h
  refine iq_G_go (k := 1) (σ' := (1, [some (.int x0)], [.int x0], (iq_sh l, I, J, X))) (fun _ => rfl) ?_
  rcases iq_ite h with ⟨hc_, h⟩ | ⟨hc_, h⟩
  · refine iq_G_pos (c := x0 < 0) (σ1 := (15, [some (.int x0)], [], (iq_sh l, I, J, X))) (fun _ => rfl) hc_ ?_
    refine iq_G_go (k := 1) (σ' := (16, [some (.int x0)], [.int (0 : Int32)], (iq_sh l, I, J, X))) (fun _ => rfl) ?_
    cases h
    exact iq_G_ret (fun _ => rfl)
  · refine iq_G_neg (c := x0 < 0) (σ1 := (4, [some (.int x0)], [], (iq_sh l, I, J, X))) (fun _ => rfl) hc_ ?_
    refine iq_G_go (k := 2) (σ' := (8, [some (.int x0)], [.int (255 : Int32), .int x0], (iq_sh l, I, J, X))) (fun _ => rfl) ?_
    rcases iq_ite h with ⟨hc_, h⟩ | ⟨hc_, h⟩
    · refine iq_G_pos (c := (255 : Int32) < x0) (σ1 := (15, [some (.int x0)], [], (iq_sh l, I, J, X))) (fun _ => rfl) hc_ ?_
      refine iq_G_go (k := 1) (σ' := (16, [some (.int x0)], [.int (0 : Int32)], (iq_sh l, I, J, X))) (fun _ => rfl) ?_
      cases h
      exact iq_G_ret (fun _ => rfl)
    · refine iq_G_neg (c := (255 : Int32) < x0) (σ1 := (11, [some (.int x0)], [], (iq_sh l, I, J, X))) (fun _ => rfl) hc_ ?_
      refine iq_G_go (k := 2) (σ' := (16, [some (.int x0)], [.int (1 : Int32)], (iq_sh l, I, J, X))) (fun _ => rfl) ?_
      cases h
      exact iq_G_ret (fun _ => rfl)
set_option maxRecDepth 100000 in
theorem zS_J1_indexOfChar_4cfef_l7_bok (l : Nat)  (x3 : Int32) (x4 : Int32) (I : iq_I) (J : iq_J) (X : iq_X) (x5 : Int32)  {q : (Int32) ⊕ ((Unit) ⊕ (Int32))} (h : zS_J1_indexOfChar_4cfef_l7_b x3 x4 I x5 = some q) (r : iq_R × iq_M) (hc : ∀ v, q = .inl v → iq_Gg 0 322 (7, [some (.ref 6001), none, none, some (.int x3), some (.int x4), some (.int v)], [], (iq_sh l, I, J, X)) r) (hx : ∀ w, q = .inr w → (∀ a, w = .inl a → iq_Gg 0 322 (31, [none, none, none, none, none, none], [], (iq_sh l, I, J, X)) r) ∧ (∀ b, w = .inr b → r = (.inl (some (.int b)), (iq_sh l, I, J, X)))) : iq_Gg 0 322 (7, [some (.ref 6001), none, none, some (.int x3), some (.int x4), some (.int x5)], [], (iq_sh l, I, J, X)) r := by
  unfold zS_J1_indexOfChar_4cfef_l7_b at h
  refine iq_G_go (k := 2) (σ' := (10, [some (.ref 6001), none, none, some (.int x3), some (.int x4), some (.int x5)], [.int x3, .int x5], (iq_sh l, I, J, X))) (fun _ => rfl) ?_
  rcases iq_ite h with ⟨hc_, h⟩ | ⟨hc_, h⟩
  · refine iq_G_pos (c := x3 ≤ x5) (σ1 := (31, [some (.ref 6001), none, none, some (.int x3), some (.int x4), some (.int x5)], [], (iq_sh l, I, J, X))) (fun _ => rfl) hc_ ?_
    cases h
    exact iq_G_fg (L := [none, none, none, none, none, none]) trivial ((hx (.inl ()) rfl).1 () rfl)
  · refine iq_G_neg (c := x3 ≤ x5) (σ1 := (13, [some (.ref 6001), none, none, some (.int x3), some (.int x4), some (.int x5)], [], (iq_sh l, I, J, X))) (fun _ => rfl) hc_ ?_
    refine iq_G_go (k := 2) (σ' := (16, [some (.ref 6001), none, none, some (.int x3), some (.int x4), some (.int x5)], [.int x5, .ref 6001], (iq_sh l, I, J, X))) (fun _ => rfl) ?_
    obtain ⟨hc_, h⟩ := iq_itn h
    refine iq_G_pos (c := iq_in x5 9) (σ1 := (17, [some (.ref 6001), none, none, some (.int x3), some (.int x4), some (.int x5)], [.int (ir_chr 1 (Int32.toNatClampNeg x5))], (iq_sh l, I, J, X))) (fun _ => rfl) hc_ ?_
    refine iq_G_go (k := 1) (σ' := (19, [some (.ref 6001), none, none, some (.int x3), some (.int x4), some (.int x5)], [.int x4, .int (ir_chr 1 (Int32.toNatClampNeg x5))], (iq_sh l, I, J, X))) (fun _ => rfl) ?_
    rcases iq_ite h with ⟨hc_, h⟩ | ⟨hc_, h⟩
    · refine iq_G_pos (c := ¬ (ir_chr 1 (Int32.toNatClampNeg x5)) = x4) (σ1 := (25, [some (.ref 6001), none, none, some (.int x3), some (.int x4), some (.int x5)], [], (iq_sh l, I, J, X))) (fun _ => rfl) hc_ ?_
      refine iq_G_go (k := 2) (σ' := (7, [some (.ref 6001), none, none, some (.int x3), some (.int x4), some (.int (x5 + (1 : Int32)))], [], (iq_sh l, I, J, X))) (fun _ => rfl) ?_
      cases h
      exact iq_G_fg (L := [some (.ref 6001), none, none, some (.int x3), some (.int x4), some (.int (x5 + (1 : Int32)))]) (And.intro rfl (And.intro rfl (And.intro rfl (And.intro rfl trivial)))) (hc (x5 + (1 : Int32)) rfl)
    · refine iq_G_neg (c := ¬ (ir_chr 1 (Int32.toNatClampNeg x5)) = x4) (σ1 := (22, [some (.ref 6001), none, none, some (.int x3), some (.int x4), some (.int x5)], [], (iq_sh l, I, J, X))) (fun _ => rfl) hc_ ?_
      refine iq_G_go (k := 1) (σ' := (24, [some (.ref 6001), none, none, some (.int x3), some (.int x4), some (.int x5)], [.int x5], (iq_sh l, I, J, X))) (fun _ => rfl) ?_
      cases h
      obtain rfl := (hx _ rfl).2 _ rfl
      exact iq_G_ret (fun _ => rfl)
set_option maxRecDepth 100000 in
theorem zS_J1_indexOfChar_4cfef_l7_ok (l : Nat)  (x3 : Int32) (x4 : Int32) (I : iq_I) (J : iq_J) (X : iq_X) {n : Nat} {v : Int32} {w : (Unit) ⊕ (Int32)} (h : zS_J1_indexOfChar_4cfef_l7 x3 x4 I n v = some w) (r : iq_R × iq_M) (hq : (∀ a, w = .inl a → iq_Gg 0 322 (31, [none, none, none, none, none, none], [], (iq_sh l, I, J, X)) r) ∧ (∀ b, w = .inr b → r = (.inl (some (.int b)), (iq_sh l, I, J, X)))) : iq_Gg 0 322 (7, [some (.ref 6001), none, none, some (.int x3), some (.int x4), some (.int v)], [], (iq_sh l, I, J, X)) r :=
  iq_lp_ok (σ := fun v => (7, [some (.ref 6001), none, none, some (.int x3), some (.int x4), some (.int v)], [], (iq_sh l, I, J, X))) (Q := fun w r => (∀ a, w = .inl a → iq_Gg 0 322 (31, [none, none, none, none, none, none], [], (iq_sh l, I, J, X)) r) ∧ (∀ b, w = .inr b → r = (.inl (some (.int b)), (iq_sh l, I, J, X)))) (fun v q hv r h1 h2 => zS_J1_indexOfChar_4cfef_l7_bok l x3 x4 I J X v hv r h1 h2) h r hq
set_option maxRecDepth 100000 in
theorem zS_J1_indexOfChar_4cfef_ok (l : Nat)  (x1 : Int32) (x2 : Int32) (x3 : Int32) (I : iq_I) (J : iq_J) (X : iq_X) {q : Int32} (h : zS_J1_indexOfChar_4cfef x1 x2 x3 I = some q) : iq_Cc 1 322 [.ref 6001, .int x1, .int x2, .int x3] (iq_sh l, I, J, X) (.inl (some (.int q)), (iq_sh l, I, J, X)) := by
  refine iq_Cc_of (L := [some (.ref 6001), some (.int x1), some (.int x2), some (.int x3), none, none]) rfl rfl ?_
  unfold zS_J1_indexOfChar_4cfef at h
  refine iq_G_go (k := 5) (σ' := (7, [some (.ref 6001), some (.int x1), some (.int x2), some (.int x3), some (.int ((Int32.toInt8 x1).toInt32)), some (.int x2)], [], (iq_sh l, I, J, X))) (fun _ => rfl) ?_
  obtain ⟨w1, hw1, h⟩ := iq_bnd h
  refine iq_G_fg (L := [some (.ref 6001), none, none, some (.int x3), some (.int ((Int32.toInt8 x1).toInt32)), some (.int x2)]) (And.intro rfl (And.intro rfl (And.intro rfl (And.intro rfl trivial)))) ?_
  refine zS_J1_indexOfChar_4cfef_l7_ok l x3 ((Int32.toInt8 x1).toInt32) I J X hw1 _ ⟨fun a2 ha => ?_, fun b3 hb => ?_⟩
  · subst ha
    replace h := ir_smL h
    show iq_Gg 0 322 (31, [none, none, none, none, none, none], [], (iq_sh l, I, J, X)) _
    refine iq_G_go (k := 1) (σ' := (32, [none, none, none, none, none, none], [.int (-1 : Int32)], (iq_sh l, I, J, X))) (fun _ => rfl) ?_
    cases h
    exact iq_G_ret (fun _ => rfl)
  · subst hb
    replace h := ir_smR h
    cases h
    rfl
set_option maxRecDepth 100000 in
theorem zS_J1_indexOf_4cfef_ok (l : Nat)  (x1 : Int32) (x2 : Int32) (x3 : Int32) (I : iq_I) (J : iq_J) (X : iq_X) {q : Int32} (h : zS_J1_indexOf_4cfef x1 x2 x3 I = some q) : iq_Cc 2 321 [.ref 6001, .int x1, .int x2, .int x3] (iq_sh l, I, J, X) (.inl (some (.int q)), (iq_sh l, I, J, X)) := by
  refine iq_Cc_of (L := [some (.ref 6001), some (.int x1), some (.int x2), some (.int x3)]) rfl rfl ?_
  unfold zS_J1_indexOf_4cfef at h
  refine iq_G_go (k := 1) (σ' := (1, [some (.ref 6001), some (.int x1), some (.int x2), some (.int x3)], [.int x1], (iq_sh l, I, J, X))) (fun _ => rfl) ?_
  obtain ⟨q1, hq1, h⟩ := iq_bnd h
  refine iq_G_call (σ' := (4, [some (.ref 6001), some (.int x1), some (.int x2), some (.int x3)], [.int q1], (iq_sh l, I, J, X))) (fun _ => rfl) (zS_J1_canEncode_9a6ad_ok l x1 I J X hq1) rfl rfl ?_
  rcases iq_ite h with ⟨hc_, h⟩ | ⟨hc_, h⟩
  · refine iq_G_pos (c := ¬ q1 = 0) (σ1 := (9, [some (.ref 6001), some (.int x1), some (.int x2), some (.int x3)], [], (iq_sh l, I, J, X))) (fun _ => rfl) hc_ ?_
    refine iq_G_go (k := 11) (σ' := (24, [some (.ref 6001), some (.int x1), some (.int (ir_max x2 (0 : Int32))), some (.int (ir_min x3 (9 : Int32)))], [.int (ir_min x3 (9 : Int32)), .int (ir_max x2 (0 : Int32))], (iq_sh l, I, J, X))) (fun _ => rfl) ?_
    rcases iq_ite h with ⟨hc_, h⟩ | ⟨hc_, h⟩
    · refine iq_G_pos (c := (ir_max x2 (0 : Int32)) < (ir_min x3 (9 : Int32))) (σ1 := (29, [some (.ref 6001), some (.int x1), some (.int (ir_max x2 (0 : Int32))), some (.int (ir_min x3 (9 : Int32)))], [], (iq_sh l, I, J, X))) (fun _ => rfl) hc_ ?_
      refine iq_G_go (k := 4) (σ' := (33, [some (.ref 6001), some (.int x1), some (.int (ir_max x2 (0 : Int32))), some (.int (ir_min x3 (9 : Int32)))], [.int (ir_min x3 (9 : Int32)), .int (ir_max x2 (0 : Int32)), .int x1, .ref 6001], (iq_sh l, I, J, X))) (fun _ => rfl) ?_
      obtain ⟨q2, hq2, h⟩ := iq_bnd h
      refine iq_G_call (σ' := (36, [some (.ref 6001), some (.int x1), some (.int (ir_max x2 (0 : Int32))), some (.int (ir_min x3 (9 : Int32)))], [.int q2], (iq_sh l, I, J, X))) (fun _ => rfl) (zS_J1_indexOfChar_4cfef_ok l x1 (ir_max x2 (0 : Int32)) (ir_min x3 (9 : Int32)) I J X hq2) rfl rfl ?_
      cases h
      exact iq_G_ret (fun _ => rfl)
    · refine iq_G_neg (c := (ir_max x2 (0 : Int32)) < (ir_min x3 (9 : Int32))) (σ1 := (27, [some (.ref 6001), some (.int x1), some (.int (ir_max x2 (0 : Int32))), some (.int (ir_min x3 (9 : Int32)))], [], (iq_sh l, I, J, X))) (fun _ => rfl) hc_ ?_
      refine iq_G_go (k := 1) (σ' := (28, [some (.ref 6001), some (.int x1), some (.int (ir_max x2 (0 : Int32))), some (.int (ir_min x3 (9 : Int32)))], [.int (-1 : Int32)], (iq_sh l, I, J, X))) (fun _ => rfl) ?_
      cases h
      exact iq_G_ret (fun _ => rfl)
  · refine iq_G_neg (c := ¬ q1 = 0) (σ1 := (7, [some (.ref 6001), some (.int x1), some (.int x2), some (.int x3)], [], (iq_sh l, I, J, X))) (fun _ => rfl) hc_ ?_
    refine iq_G_go (k := 1) (σ' := (8, [some (.ref 6001), some (.int x1), some (.int x2), some (.int x3)], [.int (-1 : Int32)], (iq_sh l, I, J, X))) (fun _ => rfl) ?_
    cases h
    exact iq_G_ret (fun _ => rfl)
set_option maxRecDepth 100000 in
theorem zS_J0_indexOf_7cf53_ok (l : Nat)  (x1 : Int32) (x2 : Int32) (I : iq_I) (J : iq_J) (X : iq_X) {q : Int32} (h : zS_J0_indexOf_7cf53 x1 x2 I = some q) : iq_Cc 3 315 [.ref 5001, .int x1, .int x2] (iq_sh l, I, J, X) (.inl (some (.int q)), (iq_sh l, I, J, X)) := by
  refine iq_Cc_of (L := [some (.ref 5001), some (.int x1), some (.int x2)]) rfl rfl ?_
  unfold zS_J0_indexOf_7cf53 at h
  refine iq_G_go (k := 1) (σ' := (1, [some (.ref 5001), some (.int x1), some (.int x2)], [.ref 5001], (iq_sh l, I, J, X))) (fun _ => rfl) ?_
  obtain ⟨q1, hq1, h⟩ := iq_bnd h
  refine iq_G_call (σ' := (4, [some (.ref 5001), some (.int x1), some (.int x2)], [.int q1], (iq_sh l, I, J, X))) (fun _ => rfl) (zS_J0_isLatin1_aae02_5001_ok l  I J X hq1) rfl rfl ?_
  rcases iq_ite h with ⟨hc_, h⟩ | ⟨hc_, h⟩
  · refine iq_G_pos (c := q1 = 0) (σ1 := (23, [some (.ref 5001), some (.int x1), some (.int x2)], [], (iq_sh l, I, J, X))) (fun _ => rfl) hc_ ?_
    refine iq_G_go (k := 5) (σ' := (30, [some (.ref 5001), some (.int x1), some (.int x2)], [.ref 5001, .int x2, .int x1, .ref 6001], (iq_sh l, I, J, X))) (fun _ => rfl) ?_
    obtain ⟨q2, hq2, h⟩ := iq_bnd h
    refine iq_G_call (σ' := (33, [some (.ref 5001), some (.int x1), some (.int x2)], [.int q2, .int x2, .int x1, .ref 6001], (iq_sh l, I, J, X))) (fun _ => rfl) (zS_J0_length_8abf5_5001_ok l  I J X hq2) rfl rfl ?_
    cases h
  · refine iq_G_neg (c := q1 = 0) (σ1 := (7, [some (.ref 5001), some (.int x1), some (.int x2)], [], (iq_sh l, I, J, X))) (fun _ => rfl) hc_ ?_
    refine iq_G_go (k := 5) (σ' := (14, [some (.ref 5001), some (.int x1), some (.int x2)], [.ref 5001, .int x2, .int x1, .ref 6001], (iq_sh l, I, J, X))) (fun _ => rfl) ?_
    obtain ⟨q3, hq3, h⟩ := iq_bnd h
    refine iq_G_call (σ' := (17, [some (.ref 5001), some (.int x1), some (.int x2)], [.int q3, .int x2, .int x1, .ref 6001], (iq_sh l, I, J, X))) (fun _ => rfl) (zS_J0_length_8abf5_5001_ok l  I J X hq3) rfl rfl ?_
    obtain ⟨q4, hq4, h⟩ := iq_bnd h
    refine iq_G_call (σ' := (20, [some (.ref 5001), some (.int x1), some (.int x2)], [.int q4], (iq_sh l, I, J, X))) (fun _ => rfl) (zS_J1_indexOf_4cfef_ok l x1 x2 q3 I J X hq4) rfl rfl ?_
    refine iq_G_go (k := 1) (σ' := (36, [some (.ref 5001), some (.int x1), some (.int x2)], [.int q4], (iq_sh l, I, J, X))) (fun _ => rfl) ?_
    cases h
    exact iq_G_ret (fun _ => rfl)
set_option maxRecDepth 100000 in
theorem zS_J0_indexOf_0f7a4_ok (l : Nat)  (x1 : Int32) (I : iq_I) (J : iq_J) (X : iq_X) {q : Int32} (h : zS_J0_indexOf_0f7a4 x1 I = some q) : iq_Cc 4 314 [.ref 5001, .int x1] (iq_sh l, I, J, X) (.inl (some (.int q)), (iq_sh l, I, J, X)) := by
  refine iq_Cc_of (L := [some (.ref 5001), some (.int x1)]) rfl rfl ?_
  unfold zS_J0_indexOf_0f7a4 at h
  refine iq_G_go (k := 3) (σ' := (3, [some (.ref 5001), some (.int x1)], [.int (0 : Int32), .int x1, .ref 5001], (iq_sh l, I, J, X))) (fun _ => rfl) ?_
  obtain ⟨q1, hq1, h⟩ := iq_bnd h
  refine iq_G_call (σ' := (6, [some (.ref 5001), some (.int x1)], [.int q1], (iq_sh l, I, J, X))) (fun _ => rfl) (zS_J0_indexOf_7cf53_ok l x1 (0 : Int32) I J X hq1) rfl rfl ?_
  cases h
  exact iq_G_ret (fun _ => rfl)
set_option maxRecDepth 100000 in
theorem zT_next_l8_bok (l : Nat)   (J : iq_J) (X : iq_X)  (I : iq_I) {q : (iq_I) ⊕ (iq_I)} (h : zT_next_l8_b  I = some q) (r : iq_R × iq_M) (hc : ∀ v, q = .inl v → iq_Gg 4 139 (8, [some (.ref 62)], [], (iq_sh l, v, J, X)) r) (hx : ∀ w, q = .inr w → iq_Gg 4 139 (47, [some (.ref 62)], [], (iq_sh l, w, J, X)) r) : iq_Gg 4 139 (8, [some (.ref 62)], [], (iq_sh l, I, J, X)) r := by
  unfold zT_next_l8_b at h
  refine iq_G_go (k := 4) (σ' := (16, [some (.ref 62)], [.int (I 62 3), .int (I 62 1)], (iq_sh l, I, J, X))) (fun _ => rfl) ?_
  rcases iq_ite h with ⟨hc_, h⟩ | ⟨hc_, h⟩
  · refine iq_G_pos (c := (I 62 3) ≤ (I 62 1)) (σ1 := (47, [some (.ref 62)], [], (iq_sh l, I, J, X))) (fun _ => rfl) hc_ ?_
    cases h
    exact iq_G_fg (L := [some (.ref 62)]) (And.intro rfl trivial) (hx I rfl)
  · refine iq_G_neg (c := (I 62 3) ≤ (I 62 1)) (σ1 := (19, [some (.ref 62)], [], (iq_sh l, I, J, X))) (fun _ => rfl) hc_ ?_
    refine iq_G_go (k := 4) (σ' := (27, [some (.ref 62)], [.int (I 62 1), .ref 2], (iq_sh l, I, J, X))) (fun _ => rfl) ?_
    obtain ⟨hc_, h⟩ := iq_itn h
    refine iq_G_pos (c := iq_in (I 62 1) 700) (σ1 := (28, [some (.ref 62)], [.int (I 2 (Int32.toNatClampNeg (I 62 1)))], (iq_sh l, I, J, X))) (fun _ => rfl) hc_ ?_
    obtain ⟨q2, hq2, h⟩ := iq_bnd h
    refine iq_G_call (σ' := (31, [some (.ref 62)], [.int q2], (iq_sh l, I, J, X))) (fun _ => rfl) (zT_isBlank_ok l (I 2 (Int32.toNatClampNeg (I 62 1))) I J X hq2) rfl rfl ?_
    rcases iq_ite h with ⟨hc_, h⟩ | ⟨hc_, h⟩
    · refine iq_G_pos (c := q2 = 0) (σ1 := (47, [some (.ref 62)], [], (iq_sh l, I, J, X))) (fun _ => rfl) hc_ ?_
      cases h
      exact iq_G_fg (L := [some (.ref 62)]) (And.intro rfl trivial) (hx I rfl)
    · refine iq_G_neg (c := q2 = 0) (σ1 := (34, [some (.ref 62)], [], (iq_sh l, I, J, X))) (fun _ => rfl) hc_ ?_
      refine iq_G_go (k := 5) (σ' := (41, [some (.ref 62)], [.int ((I 62 1) + (1 : Int32)), .ref 62], (iq_sh l, I, J, X))) (fun _ => rfl) ?_
      refine iq_G_go (k := 1) (σ' := (44, [some (.ref 62)], [], (iq_sh l, (iq_upI I 62 1 ((I 62 1) + (1 : Int32))), J, X))) (fun _ => rfl) ?_
      obtain ⟨I3, eI3, h⟩ := ir_letG h
      rw [← eI3]
      clear eI3
      refine iq_G_go (k := 1) (σ' := (8, [some (.ref 62)], [], (iq_sh l, I3, J, X))) (fun _ => rfl) ?_
      cases h
      exact iq_G_fg (L := [some (.ref 62)]) (And.intro rfl trivial) (hc I3 rfl)
set_option maxRecDepth 100000 in
theorem zT_next_l8_ok (l : Nat)   (J : iq_J) (X : iq_X) {n : Nat} {v : iq_I} {w : iq_I} (h : zT_next_l8  n v = some w) (r : iq_R × iq_M) (hq : iq_Gg 4 139 (47, [some (.ref 62)], [], (iq_sh l, w, J, X)) r) : iq_Gg 4 139 (8, [some (.ref 62)], [], (iq_sh l, v, J, X)) r :=
  iq_lp_ok (σ := fun v => (8, [some (.ref 62)], [], (iq_sh l, v, J, X))) (Q := fun w r => iq_Gg 4 139 (47, [some (.ref 62)], [], (iq_sh l, w, J, X)) r) (fun v q hv r h1 h2 => zT_next_l8_bok l J X v hv r h1 h2) h r hq
set_option maxRecDepth 100000 in
theorem zT_next_l153_bok (l : Nat)   (J : iq_J) (X : iq_X)  (I : iq_I) {q : (iq_I) ⊕ (iq_I)} (h : zT_next_l153_b  I = some q) (r : iq_R × iq_M) (hc : ∀ v, q = .inl v → iq_Gg 4 139 (153, [some (.ref 62)], [], (iq_sh l, v, J, X)) r) (hx : ∀ w, q = .inr w → iq_Gg 4 139 (229, [none], [], (iq_sh l, w, J, X)) r) : iq_Gg 4 139 (153, [some (.ref 62)], [], (iq_sh l, I, J, X)) r := by
  unfold zT_next_l153_b at h
  refine iq_G_go (k := 4) (σ' := (161, [some (.ref 62)], [.int (I 62 3), .int (I 62 4)], (iq_sh l, I, J, X))) (fun _ => rfl) ?_
  rcases iq_ite h with ⟨hc_, h⟩ | ⟨hc_, h⟩
  · refine iq_G_pos (c := (I 62 3) ≤ (I 62 4)) (σ1 := (229, [some (.ref 62)], [], (iq_sh l, I, J, X))) (fun _ => rfl) hc_ ?_
    cases h
    exact iq_G_fg (L := [none]) trivial (hx I rfl)
  · refine iq_G_neg (c := (I 62 3) ≤ (I 62 4)) (σ1 := (164, [some (.ref 62)], [], (iq_sh l, I, J, X))) (fun _ => rfl) hc_ ?_
    refine iq_G_go (k := 4) (σ' := (172, [some (.ref 62)], [.int (I 62 4), .ref 2], (iq_sh l, I, J, X))) (fun _ => rfl) ?_
    obtain ⟨hc_, h⟩ := iq_itn h
    refine iq_G_pos (c := iq_in (I 62 4) 700) (σ1 := (173, [some (.ref 62)], [.int (I 2 (Int32.toNatClampNeg (I 62 4)))], (iq_sh l, I, J, X))) (fun _ => rfl) hc_ ?_
    obtain ⟨q14, hq14, h⟩ := iq_bnd h
    refine iq_G_call (σ' := (176, [some (.ref 62)], [.int q14], (iq_sh l, I, J, X))) (fun _ => rfl) (zT_isDigit_ok l (I 2 (Int32.toNatClampNeg (I 62 4))) I J X hq14) rfl rfl ?_
    rcases iq_ite h with ⟨hc_, h⟩ | ⟨hc_, h⟩
    · refine iq_G_pos (c := q14 = 0) (σ1 := (229, [some (.ref 62)], [], (iq_sh l, I, J, X))) (fun _ => rfl) hc_ ?_
      cases h
      exact iq_G_fg (L := [none]) trivial (hx I rfl)
    · refine iq_G_neg (c := q14 = 0) (σ1 := (179, [some (.ref 62)], [], (iq_sh l, I, J, X))) (fun _ => rfl) hc_ ?_
      refine iq_G_go (k := 5) (σ' := (186, [some (.ref 62)], [.int ((I 62 4) + (1 : Int32)), .ref 62], (iq_sh l, I, J, X))) (fun _ => rfl) ?_
      refine iq_G_go (k := 1) (σ' := (189, [some (.ref 62)], [], (iq_sh l, (iq_upI I 62 4 ((I 62 4) + (1 : Int32))), J, X))) (fun _ => rfl) ?_
      obtain ⟨I15, eI15, h⟩ := ir_letG h
      rw [← eI15]
      clear eI15
      refine iq_G_go (k := 1) (σ' := (153, [some (.ref 62)], [], (iq_sh l, I15, J, X))) (fun _ => rfl) ?_
      cases h
      exact iq_G_fg (L := [some (.ref 62)]) (And.intro rfl trivial) (hc I15 rfl)
set_option maxRecDepth 100000 in
theorem zT_next_l153_ok (l : Nat)   (J : iq_J) (X : iq_X) {n : Nat} {v : iq_I} {w : iq_I} (h : zT_next_l153  n v = some w) (r : iq_R × iq_M) (hq : iq_Gg 4 139 (229, [none], [], (iq_sh l, w, J, X)) r) : iq_Gg 4 139 (153, [some (.ref 62)], [], (iq_sh l, v, J, X)) r :=
  iq_lp_ok (σ := fun v => (153, [some (.ref 62)], [], (iq_sh l, v, J, X))) (Q := fun w r => iq_Gg 4 139 (229, [none], [], (iq_sh l, w, J, X)) r) (fun v q hv r h1 h2 => zT_next_l153_bok l J X v hv r h1 h2) h r hq
set_option maxRecDepth 100000 in
theorem zT_next_l94_bok (l : Nat)   (J : iq_J) (X : iq_X)  (I : iq_I) {q : (iq_I) ⊕ (iq_I)} (h : zT_next_l94_b  I = some q) (r : iq_R × iq_M) (hc : ∀ v, q = .inl v → iq_Gg 4 139 (94, [some (.ref 62)], [], (iq_sh l, v, J, X)) r) (hx : ∀ w, q = .inr w → iq_Gg 4 139 (229, [none], [], (iq_sh l, w, J, X)) r) : iq_Gg 4 139 (94, [some (.ref 62)], [], (iq_sh l, I, J, X)) r := by
  unfold zT_next_l94_b at h
  refine iq_G_go (k := 4) (σ' := (102, [some (.ref 62)], [.int (I 62 3), .int (I 62 4)], (iq_sh l, I, J, X))) (fun _ => rfl) ?_
  rcases iq_ite h with ⟨hc_, h⟩ | ⟨hc_, h⟩
  · refine iq_G_pos (c := (I 62 3) ≤ (I 62 4)) (σ1 := (229, [some (.ref 62)], [], (iq_sh l, I, J, X))) (fun _ => rfl) hc_ ?_
    cases h
    exact iq_G_fg (L := [none]) trivial (hx I rfl)
  · refine iq_G_neg (c := (I 62 3) ≤ (I 62 4)) (σ1 := (105, [some (.ref 62)], [], (iq_sh l, I, J, X))) (fun _ => rfl) hc_ ?_
    refine iq_G_go (k := 4) (σ' := (113, [some (.ref 62)], [.int (I 62 4), .ref 2], (iq_sh l, I, J, X))) (fun _ => rfl) ?_
    obtain ⟨hc_, h⟩ := iq_itn h
    refine iq_G_pos (c := iq_in (I 62 4) 700) (σ1 := (114, [some (.ref 62)], [.int (I 2 (Int32.toNatClampNeg (I 62 4)))], (iq_sh l, I, J, X))) (fun _ => rfl) hc_ ?_
    obtain ⟨q18, hq18, h⟩ := iq_bnd h
    refine iq_G_call (σ' := (117, [some (.ref 62)], [.int q18], (iq_sh l, I, J, X))) (fun _ => rfl) (zT_isLetter_ok l (I 2 (Int32.toNatClampNeg (I 62 4))) I J X hq18) rfl rfl ?_
    rcases iq_ite h with ⟨hc_, h⟩ | ⟨hc_, h⟩
    · refine iq_G_pos (c := q18 = 0) (σ1 := (229, [some (.ref 62)], [], (iq_sh l, I, J, X))) (fun _ => rfl) hc_ ?_
      cases h
      exact iq_G_fg (L := [none]) trivial (hx I rfl)
    · refine iq_G_neg (c := q18 = 0) (σ1 := (120, [some (.ref 62)], [], (iq_sh l, I, J, X))) (fun _ => rfl) hc_ ?_
      refine iq_G_go (k := 5) (σ' := (127, [some (.ref 62)], [.int ((I 62 4) + (1 : Int32)), .ref 62], (iq_sh l, I, J, X))) (fun _ => rfl) ?_
      refine iq_G_go (k := 1) (σ' := (130, [some (.ref 62)], [], (iq_sh l, (iq_upI I 62 4 ((I 62 4) + (1 : Int32))), J, X))) (fun _ => rfl) ?_
      obtain ⟨I19, eI19, h⟩ := ir_letG h
      rw [← eI19]
      clear eI19
      refine iq_G_go (k := 1) (σ' := (94, [some (.ref 62)], [], (iq_sh l, I19, J, X))) (fun _ => rfl) ?_
      cases h
      exact iq_G_fg (L := [some (.ref 62)]) (And.intro rfl trivial) (hc I19 rfl)
set_option maxRecDepth 100000 in
theorem zT_next_l94_ok (l : Nat)   (J : iq_J) (X : iq_X) {n : Nat} {v : iq_I} {w : iq_I} (h : zT_next_l94  n v = some w) (r : iq_R × iq_M) (hq : iq_Gg 4 139 (229, [none], [], (iq_sh l, w, J, X)) r) : iq_Gg 4 139 (94, [some (.ref 62)], [], (iq_sh l, v, J, X)) r :=
  iq_lp_ok (σ := fun v => (94, [some (.ref 62)], [], (iq_sh l, v, J, X))) (Q := fun w r => iq_Gg 4 139 (229, [none], [], (iq_sh l, w, J, X)) r) (fun v q hv r h1 h2 => zT_next_l94_bok l J X v hv r h1 h2) h r hq
set_option maxRecDepth 100000 in
theorem zT_next_47_ok (l : Nat)   (I : iq_I) (J : iq_J) (X : iq_X)  {q : iq_I} (h : zT_next_47 I = some q)  : iq_Gg 4 139 (47, [some (.ref 62)], [], (iq_sh l, I, J, X)) (.inl none, (iq_sh l, q, J, X)) := by
  unfold zT_next_47 at h
  refine iq_G_go (k := 3) (σ' := (52, [some (.ref 62)], [.int (I 62 1), .ref 62], (iq_sh l, I, J, X))) (fun _ => rfl) ?_
  refine iq_G_go (k := 1) (σ' := (55, [some (.ref 62)], [], (iq_sh l, (iq_upI I 62 4 (I 62 1)), J, X))) (fun _ => rfl) ?_
  obtain ⟨I5, eI5, h⟩ := ir_letG h
  rw [← eI5]
  clear eI5
  refine iq_G_go (k := 4) (σ' := (63, [some (.ref 62)], [.int (I5 62 3), .int (I5 62 1)], (iq_sh l, I5, J, X))) (fun _ => rfl) ?_
  rcases iq_ite h with ⟨hc_, h⟩ | ⟨hc_, h⟩
  · refine iq_G_pos (c := (I5 62 1) < (I5 62 3)) (σ1 := (74, [some (.ref 62)], [], (iq_sh l, I5, J, X))) (fun _ => rfl) hc_ ?_
    refine iq_G_go (k := 4) (σ' := (82, [some (.ref 62)], [.int (I5 62 1), .ref 2], (iq_sh l, I5, J, X))) (fun _ => rfl) ?_
    obtain ⟨hc_, h⟩ := iq_itn h
    refine iq_G_pos (c := iq_in (I5 62 1) 700) (σ1 := (83, [some (.ref 62)], [.int (I5 2 (Int32.toNatClampNeg (I5 62 1)))], (iq_sh l, I5, J, X))) (fun _ => rfl) hc_ ?_
    obtain ⟨q6, hq6, h⟩ := iq_bnd h
    refine iq_G_call (σ' := (86, [some (.ref 62)], [.int q6], (iq_sh l, I5, J, X))) (fun _ => rfl) (zT_isLetter_ok l (I5 2 (Int32.toNatClampNeg (I5 62 1))) I5 J X hq6) rfl rfl ?_
    rcases iq_ite h with ⟨hc_, h⟩ | ⟨hc_, h⟩
    · refine iq_G_pos (c := q6 = 0) (σ1 := (133, [some (.ref 62)], [], (iq_sh l, I5, J, X))) (fun _ => rfl) hc_ ?_
      refine iq_G_go (k := 4) (σ' := (141, [some (.ref 62)], [.int (I5 62 1), .ref 2], (iq_sh l, I5, J, X))) (fun _ => rfl) ?_
      obtain ⟨hc_, h⟩ := iq_itn h
      refine iq_G_pos (c := iq_in (I5 62 1) 700) (σ1 := (142, [some (.ref 62)], [.int (I5 2 (Int32.toNatClampNeg (I5 62 1)))], (iq_sh l, I5, J, X))) (fun _ => rfl) hc_ ?_
      obtain ⟨q7, hq7, h⟩ := iq_bnd h
      refine iq_G_call (σ' := (145, [some (.ref 62)], [.int q7], (iq_sh l, I5, J, X))) (fun _ => rfl) (zT_isDigit_ok l (I5 2 (Int32.toNatClampNeg (I5 62 1))) I5 J X hq7) rfl rfl ?_
      rcases iq_ite h with ⟨hc_, h⟩ | ⟨hc_, h⟩
      · refine iq_G_pos (c := q7 = 0) (σ1 := (192, [some (.ref 62)], [], (iq_sh l, I5, J, X))) (fun _ => rfl) hc_ ?_
        refine iq_G_go (k := 6) (σ' := (203, [some (.ref 62)], [.int (I5 62 1), .ref 2, .ref 5001, .ref 62], (iq_sh l, I5, J, X))) (fun _ => rfl) ?_
        obtain ⟨hc_, h⟩ := iq_itn h
        refine iq_G_pos (c := iq_in (I5 62 1) 700) (σ1 := (204, [some (.ref 62)], [.int (I5 2 (Int32.toNatClampNeg (I5 62 1))), .ref 5001, .ref 62], (iq_sh l, I5, J, X))) (fun _ => rfl) hc_ ?_
        refine iq_G_go (k := 1) (σ' := (205, [some (.ref 62)], [.int ((Int32.toUInt32 (I5 2 (Int32.toNatClampNeg (I5 62 1))) % 65536).toInt32), .ref 5001, .ref 62], (iq_sh l, I5, J, X))) (fun _ => rfl) ?_
        obtain ⟨q8, hq8, h⟩ := iq_bnd h
        refine iq_G_call (σ' := (208, [some (.ref 62)], [.int q8, .ref 62], (iq_sh l, I5, J, X))) (fun _ => rfl) (zS_J0_indexOf_0f7a4_ok l ((Int32.toUInt32 (I5 2 (Int32.toNatClampNeg (I5 62 1))) % 65536).toInt32) I5 J X hq8) rfl rfl ?_
        rcases iq_ite h with ⟨hc_, h⟩ | ⟨hc_, h⟩
        · refine iq_G_pos (c := q8 < 0) (σ1 := (215, [some (.ref 62)], [.ref 62], (iq_sh l, I5, J, X))) (fun _ => rfl) hc_ ?_
          refine iq_G_go (k := 1) (σ' := (216, [some (.ref 62)], [.int (4 : Int32), .ref 62], (iq_sh l, I5, J, X))) (fun _ => rfl) ?_
          refine iq_G_go (k := 1) (σ' := (219, [some (.ref 62)], [], (iq_sh l, (iq_upI I5 62 0 (4 : Int32)), J, X))) (fun _ => rfl) ?_
          obtain ⟨I9, eI9, h⟩ := ir_letG h
          rw [← eI9]
          clear eI9
          refine iq_G_go (k := 5) (σ' := (226, [some (.ref 62)], [.int ((I9 62 1) + (1 : Int32)), .ref 62], (iq_sh l, I9, J, X))) (fun _ => rfl) ?_
          refine iq_G_go (k := 1) (σ' := (229, [some (.ref 62)], [], (iq_sh l, (iq_upI I9 62 4 ((I9 62 1) + (1 : Int32))), J, X))) (fun _ => rfl) ?_
          obtain ⟨I10, eI10, h⟩ := ir_letG h
          rw [← eI10]
          clear eI10
          cases h
          exact iq_G_ret (fun _ => rfl)
        · refine iq_G_neg (c := q8 < 0) (σ1 := (211, [some (.ref 62)], [.ref 62], (iq_sh l, I5, J, X))) (fun _ => rfl) hc_ ?_
          refine iq_G_go (k := 2) (σ' := (216, [some (.ref 62)], [.int (3 : Int32), .ref 62], (iq_sh l, I5, J, X))) (fun _ => rfl) ?_
          refine iq_G_go (k := 1) (σ' := (219, [some (.ref 62)], [], (iq_sh l, (iq_upI I5 62 0 (3 : Int32)), J, X))) (fun _ => rfl) ?_
          obtain ⟨I11, eI11, h⟩ := ir_letG h
          rw [← eI11]
          clear eI11
          refine iq_G_go (k := 5) (σ' := (226, [some (.ref 62)], [.int ((I11 62 1) + (1 : Int32)), .ref 62], (iq_sh l, I11, J, X))) (fun _ => rfl) ?_
          refine iq_G_go (k := 1) (σ' := (229, [some (.ref 62)], [], (iq_sh l, (iq_upI I11 62 4 ((I11 62 1) + (1 : Int32))), J, X))) (fun _ => rfl) ?_
          obtain ⟨I12, eI12, h⟩ := ir_letG h
          rw [← eI12]
          clear eI12
          cases h
          exact iq_G_ret (fun _ => rfl)
      · refine iq_G_neg (c := q7 = 0) (σ1 := (148, [some (.ref 62)], [], (iq_sh l, I5, J, X))) (fun _ => rfl) hc_ ?_
        refine iq_G_go (k := 2) (σ' := (150, [some (.ref 62)], [.int (2 : Int32), .ref 62], (iq_sh l, I5, J, X))) (fun _ => rfl) ?_
        refine iq_G_go (k := 1) (σ' := (153, [some (.ref 62)], [], (iq_sh l, (iq_upI I5 62 0 (2 : Int32)), J, X))) (fun _ => rfl) ?_
        obtain ⟨I13, eI13, h⟩ := ir_letG h
        rw [← eI13]
        clear eI13
        obtain ⟨w16, hw16, h⟩ := iq_bnd h
        refine iq_G_fg (L := [some (.ref 62)]) (And.intro rfl trivial) ?_
        refine zT_next_l153_ok l J X hw16 _ ?_
        show iq_Gg 4 139 (229, [none], [], (iq_sh l, w16, J, X)) _
        cases h
        exact iq_G_ret (fun _ => rfl)
    · refine iq_G_neg (c := q6 = 0) (σ1 := (89, [some (.ref 62)], [], (iq_sh l, I5, J, X))) (fun _ => rfl) hc_ ?_
      refine iq_G_go (k := 2) (σ' := (91, [some (.ref 62)], [.int (1 : Int32), .ref 62], (iq_sh l, I5, J, X))) (fun _ => rfl) ?_
      refine iq_G_go (k := 1) (σ' := (94, [some (.ref 62)], [], (iq_sh l, (iq_upI I5 62 0 (1 : Int32)), J, X))) (fun _ => rfl) ?_
      obtain ⟨I17, eI17, h⟩ := ir_letG h
      rw [← eI17]
      clear eI17
      obtain ⟨w20, hw20, h⟩ := iq_bnd h
      refine iq_G_fg (L := [some (.ref 62)]) (And.intro rfl trivial) ?_
      refine zT_next_l94_ok l J X hw20 _ ?_
      show iq_Gg 4 139 (229, [none], [], (iq_sh l, w20, J, X)) _
      cases h
      exact iq_G_ret (fun _ => rfl)
  · refine iq_G_neg (c := (I5 62 1) < (I5 62 3)) (σ1 := (66, [some (.ref 62)], [], (iq_sh l, I5, J, X))) (fun _ => rfl) hc_ ?_
    refine iq_G_go (k := 2) (σ' := (68, [some (.ref 62)], [.int (0 : Int32), .ref 62], (iq_sh l, I5, J, X))) (fun _ => rfl) ?_
    refine iq_G_go (k := 1) (σ' := (71, [some (.ref 62)], [], (iq_sh l, (iq_upI I5 62 0 (0 : Int32)), J, X))) (fun _ => rfl) ?_
    obtain ⟨I21, eI21, h⟩ := ir_letG h
    rw [← eI21]
    clear eI21
    refine iq_G_go (k := 1) (σ' := (229, [some (.ref 62)], [], (iq_sh l, I21, J, X))) (fun _ => rfl) ?_
    cases h
    exact iq_G_ret (fun _ => rfl)
set_option maxRecDepth 100000 in
theorem zT_next_ok (l : Nat)   (I : iq_I) (J : iq_J) (X : iq_X) {q : iq_I} (h : zT_next I = some q) : iq_Cc 5 139 [.ref 62] (iq_sh l, I, J, X) (.inl none, (iq_sh l, q, J, X)) := by
  refine iq_Cc_of (L := [some (.ref 62)]) rfl rfl ?_
  unfold zT_next at h
  refine iq_G_go (k := 3) (σ' := (5, [some (.ref 62)], [.int (I 62 4), .ref 62], (iq_sh l, I, J, X))) (fun _ => rfl) ?_
  refine iq_G_go (k := 1) (σ' := (8, [some (.ref 62)], [], (iq_sh l, (iq_upI I 62 1 (I 62 4)), J, X))) (fun _ => rfl) ?_
  obtain ⟨I1, eI1, h⟩ := ir_letG h
  rw [← eI1]
  clear eI1
  obtain ⟨w4, hw4, h⟩ := iq_bnd h
  refine iq_G_fg (L := [some (.ref 62)]) (And.intro rfl trivial) ?_
  refine zT_next_l8_ok l J X hw4 _ ?_
  show iq_Gg 4 139 (47, [some (.ref 62)], [], (iq_sh l, w4, J, X)) _
  exact iq_G_fg (L := [some (.ref 62)]) (And.intro rfl trivial) (zT_next_47_ok l w4 J X  h )
set_option maxRecDepth 100000 in
theorem zT_begin_ok (l : Nat)  (x1 : Int32) (I : iq_I) (J : iq_J) (X : iq_X) {q : iq_I} (h : zT_begin x1 I = some q) : iq_Cc 6 138 [.ref 62, .int x1] (iq_sh l, I, J, X) (.inl none, (iq_sh l, q, J, X)) := by
  refine iq_Cc_of (L := [some (.ref 62), some (.int x1)]) rfl rfl ?_
  unfold zT_begin at h
  refine iq_G_go (k := 6) (σ' := (10, [some (.ref 62), some (.int x1)], [.int (ir_min x1 (700 : Int32)), .ref 62], (iq_sh l, I, J, X))) (fun _ => rfl) ?_
  refine iq_G_go (k := 1) (σ' := (13, [some (.ref 62), some (.int x1)], [], (iq_sh l, (iq_upI I 62 3 (ir_min x1 (700 : Int32))), J, X))) (fun _ => rfl) ?_
  obtain ⟨I1, eI1, h⟩ := ir_letG h
  rw [← eI1]
  clear eI1
  refine iq_G_go (k := 2) (σ' := (15, [some (.ref 62), some (.int x1)], [.int (0 : Int32), .ref 62], (iq_sh l, I1, J, X))) (fun _ => rfl) ?_
  refine iq_G_go (k := 1) (σ' := (18, [some (.ref 62), some (.int x1)], [], (iq_sh l, (iq_upI I1 62 4 (0 : Int32)), J, X))) (fun _ => rfl) ?_
  obtain ⟨I2, eI2, h⟩ := ir_letG h
  rw [← eI2]
  clear eI2
  refine iq_G_go (k := 1) (σ' := (19, [some (.ref 62), some (.int x1)], [.ref 62], (iq_sh l, I2, J, X))) (fun _ => rfl) ?_
  obtain ⟨q3, hq3, h⟩ := iq_bnd h
  refine iq_G_call (σ' := (22, [some (.ref 62), some (.int x1)], [], (iq_sh l, q3, J, X))) (fun _ => rfl) (zT_next_ok l  I2 J X hq3) rfl rfl ?_
  cases h
  exact iq_G_ret (fun _ => rfl)
set_option maxRecDepth 100000 in
theorem zS_J0_coder_7d493_5002_ok (l : Nat)   (I : iq_I) (J : iq_J) (X : iq_X) {q : Int32} (h : zS_J0_coder_7d493_5002 I = some q) : iq_Cc 1 316 [.ref 5002] (iq_sh l, I, J, X) (.inl (some (.int q)), (iq_sh l, I, J, X)) := by
  refine iq_Cc_of (L := [some (.ref 5002)]) rfl rfl ?_
  unfold zS_J0_coder_7d493_5002 at h
  refine iq_G_go (k := 1) (σ' := (3, [some (.ref 5002)], [.int (1 : Int32)], (iq_sh l, I, J, X))) (fun _ => rfl) ?_
  refine iq_G_go (k := 1) (σ' := (6, [some (.ref 5002)], [], (iq_sh l, I, J, X))) (fun _ => rfl) ?_
  refine iq_G_go (k := 3) (σ' := (14, [some (.ref 5002)], [.int (0 : Int32)], (iq_sh l, I, J, X))) (fun _ => rfl) ?_
  cases h
  exact iq_G_ret (fun _ => rfl)
set_option maxRecDepth 100000 in
theorem zS_J0_length_8abf5_5002_ok (l : Nat)   (I : iq_I) (J : iq_J) (X : iq_X) {q : Int32} (h : zS_J0_length_8abf5_5002 I = some q) : iq_Cc 2 312 [.ref 5002] (iq_sh l, I, J, X) (.inl (some (.int q)), (iq_sh l, I, J, X)) := by
  refine iq_Cc_of (L := [some (.ref 5002)]) rfl rfl ?_
  unfold zS_J0_length_8abf5_5002 at h
  refine iq_G_go (k := 4) (σ' := (6, [some (.ref 5002)], [.ref 5002, .int (5 : Int32)], (iq_sh l, I, J, X))) (fun _ => rfl) ?_
  obtain ⟨q1, hq1, h⟩ := iq_bnd h
  refine iq_G_call (σ' := (9, [some (.ref 5002)], [.int q1, .int (5 : Int32)], (iq_sh l, I, J, X))) (fun _ => rfl) (zS_J0_coder_7d493_5002_ok l  I J X hq1) rfl rfl ?_
  refine iq_G_go (k := 1) (σ' := (10, [some (.ref 5002)], [.int ((5 : Int32) >>> (q1 &&& 31))], (iq_sh l, I, J, X))) (fun _ => rfl) ?_
  cases h
  exact iq_G_ret (fun _ => rfl)
set_option maxRecDepth 100000 in
theorem zS_J0_isLatin1_aae02_5002_ok (l : Nat)   (I : iq_I) (J : iq_J) (X : iq_X) {q : Int32} (h : zS_J0_isLatin1_aae02_5002 I = some q) : iq_Cc 1 317 [.ref 5002] (iq_sh l, I, J, X) (.inl (some (.int q)), (iq_sh l, I, J, X)) := by
  refine iq_Cc_of (L := [some (.ref 5002)]) rfl rfl ?_
  unfold zS_J0_isLatin1_aae02_5002 at h
  refine iq_G_go (k := 1) (σ' := (3, [some (.ref 5002)], [.int (1 : Int32)], (iq_sh l, I, J, X))) (fun _ => rfl) ?_
  refine iq_G_go (k := 1) (σ' := (6, [some (.ref 5002)], [], (iq_sh l, I, J, X))) (fun _ => rfl) ?_
  refine iq_G_go (k := 2) (σ' := (10, [some (.ref 5002)], [.int (0 : Int32)], (iq_sh l, I, J, X))) (fun _ => rfl) ?_
  refine iq_G_go (k := 1) (σ' := (13, [some (.ref 5002)], [], (iq_sh l, I, J, X))) (fun _ => rfl) ?_
  refine iq_G_go (k := 2) (σ' := (18, [some (.ref 5002)], [.int (1 : Int32)], (iq_sh l, I, J, X))) (fun _ => rfl) ?_
  cases h
  exact iq_G_ret (fun _ => rfl)
set_option maxRecDepth 100000 in
theorem zS_J3_checkIndex_8e157_9_ok (l : Nat)  (x0 : Int32) (x1 : Int32) (I : iq_I) (J : iq_J) (X : iq_X)  {q : Int32} (h : zS_J3_checkIndex_8e157_9 x0 x1 I = some q)  : iq_Gg 0 324 (9, [some (.int x0), some (.int x1), some (.ref 7000)], [], (iq_sh l, I, J, X)) (.inl (some (.int q)), (iq_sh l, I, J, X)) := by
  unfold zS_J3_checkIndex_8e157_9 at h
  cases h
set_option maxRecDepth 100000 in
theorem zS_J3_checkIndex_8e157_ok (l : Nat)  (x0 : Int32) (x1 : Int32) (I : iq_I) (J : iq_J) (X : iq_X) {q : Int32} (h : zS_J3_checkIndex_8e157 x0 x1 I = some q) : iq_Cc 1 324 [.int x0, .int x1, .ref 7000] (iq_sh l, I, J, X) (.inl (some (.int q)), (iq_sh l, I, J, X)) := by
  refine iq_Cc_of (L := [some (.int x0), some (.int x1), some (.ref 7000)]) rfl rfl ?_
  unfold zS_J3_checkIndex_8e157 at h
  refine iq_G_go (k := 1) (σ' := (1, [some (.int x0), some (.int x1), some (.ref 7000)], [.int x0], (iq_sh l, I, J, X))) (fun _ => rfl) ?_
  rcases iq_ite h with ⟨hc_, h⟩ | ⟨hc_, h⟩
  · refine iq_G_pos (c := x0 < 0) (σ1 := (9, [some (.int x0), some (.int x1), some (.ref 7000)], [], (iq_sh l, I, J, X))) (fun _ => rfl) hc_ ?_
    exact iq_G_fg (L := [some (.int x0), some (.int x1), some (.ref 7000)]) (And.intro rfl (And.intro rfl (And.intro rfl trivial))) (zS_J3_checkIndex_8e157_9_ok l x0 x1 I J X  h )
  · refine iq_G_neg (c := x0 < 0) (σ1 := (4, [some (.int x0), some (.int x1), some (.ref 7000)], [], (iq_sh l, I, J, X))) (fun _ => rfl) hc_ ?_
    refine iq_G_go (k := 2) (σ' := (6, [some (.int x0), some (.int x1), some (.ref 7000)], [.int x1, .int x0], (iq_sh l, I, J, X))) (fun _ => rfl) ?_
    rcases iq_ite h with ⟨hc_, h⟩ | ⟨hc_, h⟩
    · refine iq_G_pos (c := x0 < x1) (σ1 := (16, [some (.int x0), some (.int x1), some (.ref 7000)], [], (iq_sh l, I, J, X))) (fun _ => rfl) hc_ ?_
      refine iq_G_go (k := 1) (σ' := (17, [some (.int x0), some (.int x1), some (.ref 7000)], [.int x0], (iq_sh l, I, J, X))) (fun _ => rfl) ?_
      cases h
      exact iq_G_ret (fun _ => rfl)
    · refine iq_G_neg (c := x0 < x1) (σ1 := (9, [some (.int x0), some (.int x1), some (.ref 7000)], [], (iq_sh l, I, J, X))) (fun _ => rfl) hc_ ?_
      exact iq_G_fg (L := [some (.int x0), some (.int x1), some (.ref 7000)]) (And.intro rfl (And.intro rfl (And.intro rfl trivial))) (zS_J3_checkIndex_8e157_9_ok l x0 x1 I J X  h )
set_option maxRecDepth 100000 in
theorem zS_J0_checkIndex_df160_ok (l : Nat)  (x0 : Int32) (x1 : Int32) (I : iq_I) (J : iq_J) (X : iq_X) {q : Unit} (h : zS_J0_checkIndex_df160 x0 x1 I = some q) : iq_Cc 2 318 [.int x0, .int x1] (iq_sh l, I, J, X) (.inl none, (iq_sh l, I, J, X)) := by
  refine iq_Cc_of (L := [some (.int x0), some (.int x1)]) rfl rfl ?_
  unfold zS_J0_checkIndex_df160 at h
  refine iq_G_go (k := 3) (σ' := (5, [some (.int x0), some (.int x1)], [.ref 7000, .int x1, .int x0], (iq_sh l, I, J, X))) (fun _ => rfl) ?_
  obtain ⟨q1, hq1, h⟩ := iq_bnd h
  refine iq_G_call (σ' := (8, [some (.int x0), some (.int x1)], [.int q1], (iq_sh l, I, J, X))) (fun _ => rfl) (zS_J3_checkIndex_8e157_ok l x0 x1 I J X hq1) rfl rfl ?_
  refine iq_G_go (k := 1) (σ' := (9, [some (.int x0), some (.int x1)], [], (iq_sh l, I, J, X))) (fun _ => rfl) ?_
  cases h
  exact iq_G_ret (fun _ => rfl)
set_option maxRecDepth 100000 in
theorem zS_J1_charAt_3b067_6002_ok (l : Nat)  (x1 : Int32) (I : iq_I) (J : iq_J) (X : iq_X) {q : Int32} (h : zS_J1_charAt_3b067_6002 x1 I = some q) : iq_Cc 3 319 [.ref 6002, .int x1] (iq_sh l, I, J, X) (.inl (some (.int q)), (iq_sh l, I, J, X)) := by
  refine iq_Cc_of (L := [some (.ref 6002), some (.int x1)]) rfl rfl ?_
  unfold zS_J1_charAt_3b067_6002 at h
  refine iq_G_go (k := 3) (σ' := (3, [some (.ref 6002), some (.int x1)], [.int (5 : Int32), .int x1], (iq_sh l, I, J, X))) (fun _ => rfl) ?_
  obtain ⟨q1, hq1, h⟩ := iq_bnd h
  refine iq_G_call (σ' := (6, [some (.ref 6002), some (.int x1)], [], (iq_sh l, I, J, X))) (fun _ => rfl) (zS_J0_checkIndex_df160_ok l x1 (5 : Int32) I J X hq1) rfl rfl ?_
  refine iq_G_go (k := 2) (σ' := (8, [some (.ref 6002), some (.int x1)], [.int x1, .ref 6002], (iq_sh l, I, J, X))) (fun _ => rfl) ?_
  obtain ⟨hc_, h⟩ := iq_itn h
  refine iq_G_pos (c := iq_in x1 5) (σ1 := (9, [some (.ref 6002), some (.int x1)], [.int (ir_chr 2 (Int32.toNatClampNeg x1))], (iq_sh l, I, J, X))) (fun _ => rfl) hc_ ?_
  refine iq_G_go (k := 3) (σ' := (14, [some (.ref 6002), some (.int x1)], [.int ((Int32.toUInt32 ((ir_chr 2 (Int32.toNatClampNeg x1)) &&& (255 : Int32)) % 65536).toInt32)], (iq_sh l, I, J, X))) (fun _ => rfl) ?_
  obtain ⟨hc_, h⟩ := iq_itn h
  have h := Option.some.inj h
  subst h
  exact iq_G_rif (c := narrow .char (.int ((Int32.toUInt32 ((ir_chr 2 (Int32.toNatClampNeg x1)) &&& (255 : Int32)) % 65536).toInt32)) = .int ((Int32.toUInt32 ((ir_chr 2 (Int32.toNatClampNeg x1)) &&& (255 : Int32)) % 65536).toInt32)) (fun _ => rfl) hc_
set_option maxRecDepth 100000 in
theorem zS_J0_charAt_5068e_5002_ok (l : Nat)  (x1 : Int32) (I : iq_I) (J : iq_J) (X : iq_X) {q : Int32} (h : zS_J0_charAt_5068e_5002 x1 I = some q) : iq_Cc 4 313 [.ref 5002, .int x1] (iq_sh l, I, J, X) (.inl (some (.int q)), (iq_sh l, I, J, X)) := by
  refine iq_Cc_of (L := [some (.ref 5002), some (.int x1)]) rfl rfl ?_
  unfold zS_J0_charAt_5068e_5002 at h
  refine iq_G_go (k := 1) (σ' := (1, [some (.ref 5002), some (.int x1)], [.ref 5002], (iq_sh l, I, J, X))) (fun _ => rfl) ?_
  obtain ⟨q1, hq1, h⟩ := iq_bnd h
  refine iq_G_call (σ' := (4, [some (.ref 5002), some (.int x1)], [.int q1], (iq_sh l, I, J, X))) (fun _ => rfl) (zS_J0_isLatin1_aae02_5002_ok l  I J X hq1) rfl rfl ?_
  rcases iq_ite h with ⟨hc_, h⟩ | ⟨hc_, h⟩
  · refine iq_G_pos (c := q1 = 0) (σ1 := (16, [some (.ref 5002), some (.int x1)], [], (iq_sh l, I, J, X))) (fun _ => rfl) hc_ ?_
    cases h
  · refine iq_G_neg (c := q1 = 0) (σ1 := (7, [some (.ref 5002), some (.int x1)], [], (iq_sh l, I, J, X))) (fun _ => rfl) hc_ ?_
    refine iq_G_go (k := 3) (σ' := (12, [some (.ref 5002), some (.int x1)], [.int x1, .ref 6002], (iq_sh l, I, J, X))) (fun _ => rfl) ?_
    obtain ⟨q2, hq2, h⟩ := iq_bnd h
    refine iq_G_call (σ' := (15, [some (.ref 5002), some (.int x1)], [.int q2], (iq_sh l, I, J, X))) (fun _ => rfl) (zS_J1_charAt_3b067_6002_ok l x1 I J X hq2) rfl rfl ?_
    obtain ⟨hc_, h⟩ := iq_itn h
    have h := Option.some.inj h
    subst h
    exact iq_G_rif (c := narrow .char (.int q2) = .int q2) (fun _ => rfl) hc_
set_option maxRecDepth 100000 in
theorem zT_isWord_62_5002_l28_bok (l : Nat)   (I : iq_I) (J : iq_J) (X : iq_X) (x2 : Int32)  {q : (Int32) ⊕ ((Unit) ⊕ (Int32))} (h : zT_isWord_62_5002_l28_b I x2 = some q) (r : iq_R × iq_M) (hc : ∀ v, q = .inl v → iq_Gg 4 142 (28, [some (.ref 62), some (.ref 5002), some (.int v)], [], (iq_sh l, I, J, X)) r) (hx : ∀ w, q = .inr w → (∀ a, w = .inl a → iq_Gg 4 142 (63, [none, none, none], [], (iq_sh l, I, J, X)) r) ∧ (∀ b, w = .inr b → r = (.inl (some (.int b)), (iq_sh l, I, J, X)))) : iq_Gg 4 142 (28, [some (.ref 62), some (.ref 5002), some (.int x2)], [], (iq_sh l, I, J, X)) r := by
  unfold zT_isWord_62_5002_l28_b at h
  refine iq_G_go (k := 2) (σ' := (30, [some (.ref 62), some (.ref 5002), some (.int x2)], [.ref 5002, .int x2], (iq_sh l, I, J, X))) (fun _ => rfl) ?_
  obtain ⟨q2, hq2, h⟩ := iq_bnd h
  refine iq_G_call (σ' := (33, [some (.ref 62), some (.ref 5002), some (.int x2)], [.int q2, .int x2], (iq_sh l, I, J, X))) (fun _ => rfl) (zS_J0_length_8abf5_5002_ok l  I J X hq2) rfl rfl ?_
  rcases iq_ite h with ⟨hc_, h⟩ | ⟨hc_, h⟩
  · refine iq_G_pos (c := q2 ≤ x2) (σ1 := (63, [some (.ref 62), some (.ref 5002), some (.int x2)], [], (iq_sh l, I, J, X))) (fun _ => rfl) hc_ ?_
    cases h
    exact iq_G_fg (L := [none, none, none]) trivial ((hx (.inl ()) rfl).1 () rfl)
  · refine iq_G_neg (c := q2 ≤ x2) (σ1 := (36, [some (.ref 62), some (.ref 5002), some (.int x2)], [], (iq_sh l, I, J, X))) (fun _ => rfl) hc_ ?_
    refine iq_G_go (k := 6) (σ' := (46, [some (.ref 62), some (.ref 5002), some (.int x2)], [.int ((I 62 1) + x2), .ref 2], (iq_sh l, I, J, X))) (fun _ => rfl) ?_
    obtain ⟨hc_, h⟩ := iq_itn h
    refine iq_G_pos (c := iq_in ((I 62 1) + x2) 700) (σ1 := (47, [some (.ref 62), some (.ref 5002), some (.int x2)], [.int (I 2 (Int32.toNatClampNeg ((I 62 1) + x2)))], (iq_sh l, I, J, X))) (fun _ => rfl) hc_ ?_
    refine iq_G_go (k := 2) (σ' := (49, [some (.ref 62), some (.ref 5002), some (.int x2)], [.int x2, .ref 5002, .int (I 2 (Int32.toNatClampNeg ((I 62 1) + x2)))], (iq_sh l, I, J, X))) (fun _ => rfl) ?_
    obtain ⟨q3, hq3, h⟩ := iq_bnd h
    refine iq_G_call (σ' := (52, [some (.ref 62), some (.ref 5002), some (.int x2)], [.int q3, .int (I 2 (Int32.toNatClampNeg ((I 62 1) + x2)))], (iq_sh l, I, J, X))) (fun _ => rfl) (zS_J0_charAt_5068e_5002_ok l x2 I J X hq3) rfl rfl ?_
    rcases iq_ite h with ⟨hc_, h⟩ | ⟨hc_, h⟩
    · refine iq_G_pos (c := (I 2 (Int32.toNatClampNeg ((I 62 1) + x2))) = q3) (σ1 := (57, [some (.ref 62), some (.ref 5002), some (.int x2)], [], (iq_sh l, I, J, X))) (fun _ => rfl) hc_ ?_
      refine iq_G_go (k := 2) (σ' := (28, [some (.ref 62), some (.ref 5002), some (.int (x2 + (1 : Int32)))], [], (iq_sh l, I, J, X))) (fun _ => rfl) ?_
      cases h
      exact iq_G_fg (L := [some (.ref 62), some (.ref 5002), some (.int (x2 + (1 : Int32)))]) (And.intro rfl (And.intro rfl (And.intro rfl trivial))) (hc (x2 + (1 : Int32)) rfl)
    · refine iq_G_neg (c := (I 2 (Int32.toNatClampNeg ((I 62 1) + x2))) = q3) (σ1 := (55, [some (.ref 62), some (.ref 5002), some (.int x2)], [], (iq_sh l, I, J, X))) (fun _ => rfl) hc_ ?_
      refine iq_G_go (k := 1) (σ' := (56, [some (.ref 62), some (.ref 5002), some (.int x2)], [.int (0 : Int32)], (iq_sh l, I, J, X))) (fun _ => rfl) ?_
      cases h
      obtain rfl := (hx _ rfl).2 _ rfl
      exact iq_G_ret (fun _ => rfl)
set_option maxRecDepth 100000 in
theorem zT_isWord_62_5002_l28_ok (l : Nat)   (I : iq_I) (J : iq_J) (X : iq_X) {n : Nat} {v : Int32} {w : (Unit) ⊕ (Int32)} (h : zT_isWord_62_5002_l28 I n v = some w) (r : iq_R × iq_M) (hq : (∀ a, w = .inl a → iq_Gg 4 142 (63, [none, none, none], [], (iq_sh l, I, J, X)) r) ∧ (∀ b, w = .inr b → r = (.inl (some (.int b)), (iq_sh l, I, J, X)))) : iq_Gg 4 142 (28, [some (.ref 62), some (.ref 5002), some (.int v)], [], (iq_sh l, I, J, X)) r :=
  iq_lp_ok (σ := fun v => (28, [some (.ref 62), some (.ref 5002), some (.int v)], [], (iq_sh l, I, J, X))) (Q := fun w r => (∀ a, w = .inl a → iq_Gg 4 142 (63, [none, none, none], [], (iq_sh l, I, J, X)) r) ∧ (∀ b, w = .inr b → r = (.inl (some (.int b)), (iq_sh l, I, J, X)))) (fun v q hv r h1 h2 => zT_isWord_62_5002_l28_bok l I J X v hv r h1 h2) h r hq
set_option maxRecDepth 100000 in
theorem zT_isWord_62_5002_ok (l : Nat)   (I : iq_I) (J : iq_J) (X : iq_X) {q : Int32} (h : zT_isWord_62_5002 I = some q) : iq_Cc 5 142 [.ref 62, .ref 5002] (iq_sh l, I, J, X) (.inl (some (.int q)), (iq_sh l, I, J, X)) := by
  refine iq_Cc_of (L := [some (.ref 62), some (.ref 5002), none]) rfl rfl ?_
  unfold zT_isWord_62_5002 at h
  refine iq_G_go (k := 3) (σ' := (5, [some (.ref 62), some (.ref 5002), none], [.int (1 : Int32), .int (I 62 0)], (iq_sh l, I, J, X))) (fun _ => rfl) ?_
  rcases iq_ite h with ⟨hc_, h⟩ | ⟨hc_, h⟩
  · refine iq_G_pos (c := ¬ (I 62 0) = (1 : Int32)) (σ1 := (24, [some (.ref 62), some (.ref 5002), none], [], (iq_sh l, I, J, X))) (fun _ => rfl) hc_ ?_
    refine iq_G_go (k := 1) (σ' := (25, [some (.ref 62), some (.ref 5002), none], [.int (0 : Int32)], (iq_sh l, I, J, X))) (fun _ => rfl) ?_
    cases h
    exact iq_G_ret (fun _ => rfl)
  · refine iq_G_neg (c := ¬ (I 62 0) = (1 : Int32)) (σ1 := (8, [some (.ref 62), some (.ref 5002), none], [], (iq_sh l, I, J, X))) (fun _ => rfl) hc_ ?_
    refine iq_G_go (k := 6) (σ' := (18, [some (.ref 62), some (.ref 5002), none], [.ref 5002, .int ((I 62 4) - (I 62 1))], (iq_sh l, I, J, X))) (fun _ => rfl) ?_
    obtain ⟨q1, hq1, h⟩ := iq_bnd h
    refine iq_G_call (σ' := (21, [some (.ref 62), some (.ref 5002), none], [.int q1, .int ((I 62 4) - (I 62 1))], (iq_sh l, I, J, X))) (fun _ => rfl) (zS_J0_length_8abf5_5002_ok l  I J X hq1) rfl rfl ?_
    rcases iq_ite h with ⟨hc_, h⟩ | ⟨hc_, h⟩
    · have st_ : ∀ (z_0 : Int32) (r_ : iq_R × iq_M), z_0 = q1 → iq_Gg 4 142 (26, [some (.ref 62), some (.ref 5002), none], [], (iq_sh l, I, J, X)) r_ → iq_Gg 4 142 (21, [some (.ref 62), some (.ref 5002), none], [.int q1, .int z_0], (iq_sh l, I, J, X)) r_ := fun z_0 r_ hc_ hg_ => iq_G_pos (c := z_0 = q1) (σ1 := (26, [some (.ref 62), some (.ref 5002), none], [], (iq_sh l, I, J, X))) (fun _ => rfl) hc_ hg_
      refine st_ ((I 62 4) - (I 62 1)) _ hc_ ?_
      clear st_
      refine iq_G_go (k := 2) (σ' := (28, [some (.ref 62), some (.ref 5002), some (.int (0 : Int32))], [], (iq_sh l, I, J, X))) (fun _ => rfl) ?_
      obtain ⟨w4, hw4, h⟩ := iq_bnd h
      refine iq_G_fg (L := [some (.ref 62), some (.ref 5002), some (.int (0 : Int32))]) (And.intro rfl (And.intro rfl (And.intro rfl trivial))) ?_
      refine zT_isWord_62_5002_l28_ok l I J X hw4 _ ⟨fun a5 ha => ?_, fun b6 hb => ?_⟩
      · subst ha
        replace h := ir_smL h
        show iq_Gg 4 142 (63, [none, none, none], [], (iq_sh l, I, J, X)) _
        refine iq_G_go (k := 1) (σ' := (64, [none, none, none], [.int (1 : Int32)], (iq_sh l, I, J, X))) (fun _ => rfl) ?_
        cases h
        exact iq_G_ret (fun _ => rfl)
      · subst hb
        replace h := ir_smR h
        cases h
        rfl
    · have st_ : ∀ (z_0 : Int32) (r_ : iq_R × iq_M), ¬ (z_0 = q1) → iq_Gg 4 142 (24, [some (.ref 62), some (.ref 5002), none], [], (iq_sh l, I, J, X)) r_ → iq_Gg 4 142 (21, [some (.ref 62), some (.ref 5002), none], [.int q1, .int z_0], (iq_sh l, I, J, X)) r_ := fun z_0 r_ hc_ hg_ => iq_G_neg (c := z_0 = q1) (σ1 := (24, [some (.ref 62), some (.ref 5002), none], [], (iq_sh l, I, J, X))) (fun _ => rfl) hc_ hg_
      refine st_ ((I 62 4) - (I 62 1)) _ hc_ ?_
      clear st_
      refine iq_G_go (k := 1) (σ' := (25, [some (.ref 62), some (.ref 5002), none], [.int (0 : Int32)], (iq_sh l, I, J, X))) (fun _ => rfl) ?_
      cases h
      exact iq_G_ret (fun _ => rfl)
set_option maxRecDepth 100000 in
theorem zR_refuse_ok (l : Nat)  (x1 : Int32) (I : iq_I) (J : iq_J) (X : iq_X) {q : Int32 × iq_I} (h : zR_refuse x1 I = some q) : iq_Cc 1 85 [.ref 61, .int x1] (iq_sh l, I, J, X) (.inl (some (.int q.1)), (iq_sh l, q.2, J, X)) := by
  refine iq_Cc_of (L := [some (.ref 61), some (.int x1)]) rfl rfl ?_
  unfold zR_refuse at h
  refine iq_G_go (k := 2) (σ' := (2, [some (.ref 61), some (.int x1)], [.int x1, .ref 61], (iq_sh l, I, J, X))) (fun _ => rfl) ?_
  refine iq_G_go (k := 1) (σ' := (5, [some (.ref 61), some (.int x1)], [], (iq_sh l, (iq_upI I 61 1 x1), J, X))) (fun _ => rfl) ?_
  obtain ⟨I1, eI1, h⟩ := ir_letG h
  rw [← eI1]
  clear eI1
  refine iq_G_go (k := 4) (σ' := (13, [some (.ref 61), some (.int x1)], [.int (I1 62 1), .ref 61], (iq_sh l, I1, J, X))) (fun _ => rfl) ?_
  refine iq_G_go (k := 1) (σ' := (16, [some (.ref 61), some (.int x1)], [], (iq_sh l, (iq_upI I1 61 0 (I1 62 1)), J, X))) (fun _ => rfl) ?_
  obtain ⟨I2, eI2, h⟩ := ir_letG h
  rw [← eI2]
  clear eI2
  refine iq_G_go (k := 1) (σ' := (17, [some (.ref 61), some (.int x1)], [.int (0 : Int32)], (iq_sh l, I2, J, X))) (fun _ => rfl) ?_
  cases h
  exact iq_G_ret (fun _ => rfl)
set_option maxRecDepth 100000 in
theorem zS_J0_coder_7d493_5003_ok (l : Nat)   (I : iq_I) (J : iq_J) (X : iq_X) {q : Int32} (h : zS_J0_coder_7d493_5003 I = some q) : iq_Cc 1 316 [.ref 5003] (iq_sh l, I, J, X) (.inl (some (.int q)), (iq_sh l, I, J, X)) := by
  refine iq_Cc_of (L := [some (.ref 5003)]) rfl rfl ?_
  unfold zS_J0_coder_7d493_5003 at h
  refine iq_G_go (k := 1) (σ' := (3, [some (.ref 5003)], [.int (1 : Int32)], (iq_sh l, I, J, X))) (fun _ => rfl) ?_
  refine iq_G_go (k := 1) (σ' := (6, [some (.ref 5003)], [], (iq_sh l, I, J, X))) (fun _ => rfl) ?_
  refine iq_G_go (k := 3) (σ' := (14, [some (.ref 5003)], [.int (0 : Int32)], (iq_sh l, I, J, X))) (fun _ => rfl) ?_
  cases h
  exact iq_G_ret (fun _ => rfl)
set_option maxRecDepth 100000 in
theorem zS_J0_length_8abf5_5003_ok (l : Nat)   (I : iq_I) (J : iq_J) (X : iq_X) {q : Int32} (h : zS_J0_length_8abf5_5003 I = some q) : iq_Cc 2 312 [.ref 5003] (iq_sh l, I, J, X) (.inl (some (.int q)), (iq_sh l, I, J, X)) := by
  refine iq_Cc_of (L := [some (.ref 5003)]) rfl rfl ?_
  unfold zS_J0_length_8abf5_5003 at h
  refine iq_G_go (k := 4) (σ' := (6, [some (.ref 5003)], [.ref 5003, .int (3 : Int32)], (iq_sh l, I, J, X))) (fun _ => rfl) ?_
  obtain ⟨q1, hq1, h⟩ := iq_bnd h
  refine iq_G_call (σ' := (9, [some (.ref 5003)], [.int q1, .int (3 : Int32)], (iq_sh l, I, J, X))) (fun _ => rfl) (zS_J0_coder_7d493_5003_ok l  I J X hq1) rfl rfl ?_
  refine iq_G_go (k := 1) (σ' := (10, [some (.ref 5003)], [.int ((3 : Int32) >>> (q1 &&& 31))], (iq_sh l, I, J, X))) (fun _ => rfl) ?_
  cases h
  exact iq_G_ret (fun _ => rfl)
set_option maxRecDepth 100000 in
theorem zS_J0_isLatin1_aae02_5003_ok (l : Nat)   (I : iq_I) (J : iq_J) (X : iq_X) {q : Int32} (h : zS_J0_isLatin1_aae02_5003 I = some q) : iq_Cc 1 317 [.ref 5003] (iq_sh l, I, J, X) (.inl (some (.int q)), (iq_sh l, I, J, X)) := by
  refine iq_Cc_of (L := [some (.ref 5003)]) rfl rfl ?_
  unfold zS_J0_isLatin1_aae02_5003 at h
  refine iq_G_go (k := 1) (σ' := (3, [some (.ref 5003)], [.int (1 : Int32)], (iq_sh l, I, J, X))) (fun _ => rfl) ?_
  refine iq_G_go (k := 1) (σ' := (6, [some (.ref 5003)], [], (iq_sh l, I, J, X))) (fun _ => rfl) ?_
  refine iq_G_go (k := 2) (σ' := (10, [some (.ref 5003)], [.int (0 : Int32)], (iq_sh l, I, J, X))) (fun _ => rfl) ?_
  refine iq_G_go (k := 1) (σ' := (13, [some (.ref 5003)], [], (iq_sh l, I, J, X))) (fun _ => rfl) ?_
  refine iq_G_go (k := 2) (σ' := (18, [some (.ref 5003)], [.int (1 : Int32)], (iq_sh l, I, J, X))) (fun _ => rfl) ?_
  cases h
  exact iq_G_ret (fun _ => rfl)
set_option maxRecDepth 100000 in
theorem zS_J1_charAt_3b067_6003_ok (l : Nat)  (x1 : Int32) (I : iq_I) (J : iq_J) (X : iq_X) {q : Int32} (h : zS_J1_charAt_3b067_6003 x1 I = some q) : iq_Cc 3 319 [.ref 6003, .int x1] (iq_sh l, I, J, X) (.inl (some (.int q)), (iq_sh l, I, J, X)) := by
  refine iq_Cc_of (L := [some (.ref 6003), some (.int x1)]) rfl rfl ?_
  unfold zS_J1_charAt_3b067_6003 at h
  refine iq_G_go (k := 3) (σ' := (3, [some (.ref 6003), some (.int x1)], [.int (3 : Int32), .int x1], (iq_sh l, I, J, X))) (fun _ => rfl) ?_
  obtain ⟨q1, hq1, h⟩ := iq_bnd h
  refine iq_G_call (σ' := (6, [some (.ref 6003), some (.int x1)], [], (iq_sh l, I, J, X))) (fun _ => rfl) (zS_J0_checkIndex_df160_ok l x1 (3 : Int32) I J X hq1) rfl rfl ?_
  refine iq_G_go (k := 2) (σ' := (8, [some (.ref 6003), some (.int x1)], [.int x1, .ref 6003], (iq_sh l, I, J, X))) (fun _ => rfl) ?_
  obtain ⟨hc_, h⟩ := iq_itn h
  refine iq_G_pos (c := iq_in x1 3) (σ1 := (9, [some (.ref 6003), some (.int x1)], [.int (ir_chr 3 (Int32.toNatClampNeg x1))], (iq_sh l, I, J, X))) (fun _ => rfl) hc_ ?_
  refine iq_G_go (k := 3) (σ' := (14, [some (.ref 6003), some (.int x1)], [.int ((Int32.toUInt32 ((ir_chr 3 (Int32.toNatClampNeg x1)) &&& (255 : Int32)) % 65536).toInt32)], (iq_sh l, I, J, X))) (fun _ => rfl) ?_
  obtain ⟨hc_, h⟩ := iq_itn h
  have h := Option.some.inj h
  subst h
  exact iq_G_rif (c := narrow .char (.int ((Int32.toUInt32 ((ir_chr 3 (Int32.toNatClampNeg x1)) &&& (255 : Int32)) % 65536).toInt32)) = .int ((Int32.toUInt32 ((ir_chr 3 (Int32.toNatClampNeg x1)) &&& (255 : Int32)) % 65536).toInt32)) (fun _ => rfl) hc_
set_option maxRecDepth 100000 in
theorem zS_J0_charAt_5068e_5003_ok (l : Nat)  (x1 : Int32) (I : iq_I) (J : iq_J) (X : iq_X) {q : Int32} (h : zS_J0_charAt_5068e_5003 x1 I = some q) : iq_Cc 4 313 [.ref 5003, .int x1] (iq_sh l, I, J, X) (.inl (some (.int q)), (iq_sh l, I, J, X)) := by
  refine iq_Cc_of (L := [some (.ref 5003), some (.int x1)]) rfl rfl ?_
  unfold zS_J0_charAt_5068e_5003 at h
  refine iq_G_go (k := 1) (σ' := (1, [some (.ref 5003), some (.int x1)], [.ref 5003], (iq_sh l, I, J, X))) (fun _ => rfl) ?_
  obtain ⟨q1, hq1, h⟩ := iq_bnd h
  refine iq_G_call (σ' := (4, [some (.ref 5003), some (.int x1)], [.int q1], (iq_sh l, I, J, X))) (fun _ => rfl) (zS_J0_isLatin1_aae02_5003_ok l  I J X hq1) rfl rfl ?_
  rcases iq_ite h with ⟨hc_, h⟩ | ⟨hc_, h⟩
  · refine iq_G_pos (c := q1 = 0) (σ1 := (16, [some (.ref 5003), some (.int x1)], [], (iq_sh l, I, J, X))) (fun _ => rfl) hc_ ?_
    cases h
  · refine iq_G_neg (c := q1 = 0) (σ1 := (7, [some (.ref 5003), some (.int x1)], [], (iq_sh l, I, J, X))) (fun _ => rfl) hc_ ?_
    refine iq_G_go (k := 3) (σ' := (12, [some (.ref 5003), some (.int x1)], [.int x1, .ref 6003], (iq_sh l, I, J, X))) (fun _ => rfl) ?_
    obtain ⟨q2, hq2, h⟩ := iq_bnd h
    refine iq_G_call (σ' := (15, [some (.ref 5003), some (.int x1)], [.int q2], (iq_sh l, I, J, X))) (fun _ => rfl) (zS_J1_charAt_3b067_6003_ok l x1 I J X hq2) rfl rfl ?_
    obtain ⟨hc_, h⟩ := iq_itn h
    have h := Option.some.inj h
    subst h
    exact iq_G_rif (c := narrow .char (.int q2) = .int q2) (fun _ => rfl) hc_
set_option maxRecDepth 100000 in
theorem zT_isWord_62_5003_l28_bok (l : Nat)   (I : iq_I) (J : iq_J) (X : iq_X) (x2 : Int32)  {q : (Int32) ⊕ ((Unit) ⊕ (Int32))} (h : zT_isWord_62_5003_l28_b I x2 = some q) (r : iq_R × iq_M) (hc : ∀ v, q = .inl v → iq_Gg 4 142 (28, [some (.ref 62), some (.ref 5003), some (.int v)], [], (iq_sh l, I, J, X)) r) (hx : ∀ w, q = .inr w → (∀ a, w = .inl a → iq_Gg 4 142 (63, [none, none, none], [], (iq_sh l, I, J, X)) r) ∧ (∀ b, w = .inr b → r = (.inl (some (.int b)), (iq_sh l, I, J, X)))) : iq_Gg 4 142 (28, [some (.ref 62), some (.ref 5003), some (.int x2)], [], (iq_sh l, I, J, X)) r := by
  unfold zT_isWord_62_5003_l28_b at h
  refine iq_G_go (k := 2) (σ' := (30, [some (.ref 62), some (.ref 5003), some (.int x2)], [.ref 5003, .int x2], (iq_sh l, I, J, X))) (fun _ => rfl) ?_
  obtain ⟨q2, hq2, h⟩ := iq_bnd h
  refine iq_G_call (σ' := (33, [some (.ref 62), some (.ref 5003), some (.int x2)], [.int q2, .int x2], (iq_sh l, I, J, X))) (fun _ => rfl) (zS_J0_length_8abf5_5003_ok l  I J X hq2) rfl rfl ?_
  rcases iq_ite h with ⟨hc_, h⟩ | ⟨hc_, h⟩
  · refine iq_G_pos (c := q2 ≤ x2) (σ1 := (63, [some (.ref 62), some (.ref 5003), some (.int x2)], [], (iq_sh l, I, J, X))) (fun _ => rfl) hc_ ?_
    cases h
    exact iq_G_fg (L := [none, none, none]) trivial ((hx (.inl ()) rfl).1 () rfl)
  · refine iq_G_neg (c := q2 ≤ x2) (σ1 := (36, [some (.ref 62), some (.ref 5003), some (.int x2)], [], (iq_sh l, I, J, X))) (fun _ => rfl) hc_ ?_
    refine iq_G_go (k := 6) (σ' := (46, [some (.ref 62), some (.ref 5003), some (.int x2)], [.int ((I 62 1) + x2), .ref 2], (iq_sh l, I, J, X))) (fun _ => rfl) ?_
    obtain ⟨hc_, h⟩ := iq_itn h
    refine iq_G_pos (c := iq_in ((I 62 1) + x2) 700) (σ1 := (47, [some (.ref 62), some (.ref 5003), some (.int x2)], [.int (I 2 (Int32.toNatClampNeg ((I 62 1) + x2)))], (iq_sh l, I, J, X))) (fun _ => rfl) hc_ ?_
    refine iq_G_go (k := 2) (σ' := (49, [some (.ref 62), some (.ref 5003), some (.int x2)], [.int x2, .ref 5003, .int (I 2 (Int32.toNatClampNeg ((I 62 1) + x2)))], (iq_sh l, I, J, X))) (fun _ => rfl) ?_
    obtain ⟨q3, hq3, h⟩ := iq_bnd h
    refine iq_G_call (σ' := (52, [some (.ref 62), some (.ref 5003), some (.int x2)], [.int q3, .int (I 2 (Int32.toNatClampNeg ((I 62 1) + x2)))], (iq_sh l, I, J, X))) (fun _ => rfl) (zS_J0_charAt_5068e_5003_ok l x2 I J X hq3) rfl rfl ?_
    rcases iq_ite h with ⟨hc_, h⟩ | ⟨hc_, h⟩
    · refine iq_G_pos (c := (I 2 (Int32.toNatClampNeg ((I 62 1) + x2))) = q3) (σ1 := (57, [some (.ref 62), some (.ref 5003), some (.int x2)], [], (iq_sh l, I, J, X))) (fun _ => rfl) hc_ ?_
      refine iq_G_go (k := 2) (σ' := (28, [some (.ref 62), some (.ref 5003), some (.int (x2 + (1 : Int32)))], [], (iq_sh l, I, J, X))) (fun _ => rfl) ?_
      cases h
      exact iq_G_fg (L := [some (.ref 62), some (.ref 5003), some (.int (x2 + (1 : Int32)))]) (And.intro rfl (And.intro rfl (And.intro rfl trivial))) (hc (x2 + (1 : Int32)) rfl)
    · refine iq_G_neg (c := (I 2 (Int32.toNatClampNeg ((I 62 1) + x2))) = q3) (σ1 := (55, [some (.ref 62), some (.ref 5003), some (.int x2)], [], (iq_sh l, I, J, X))) (fun _ => rfl) hc_ ?_
      refine iq_G_go (k := 1) (σ' := (56, [some (.ref 62), some (.ref 5003), some (.int x2)], [.int (0 : Int32)], (iq_sh l, I, J, X))) (fun _ => rfl) ?_
      cases h
      obtain rfl := (hx _ rfl).2 _ rfl
      exact iq_G_ret (fun _ => rfl)
set_option maxRecDepth 100000 in
theorem zT_isWord_62_5003_l28_ok (l : Nat)   (I : iq_I) (J : iq_J) (X : iq_X) {n : Nat} {v : Int32} {w : (Unit) ⊕ (Int32)} (h : zT_isWord_62_5003_l28 I n v = some w) (r : iq_R × iq_M) (hq : (∀ a, w = .inl a → iq_Gg 4 142 (63, [none, none, none], [], (iq_sh l, I, J, X)) r) ∧ (∀ b, w = .inr b → r = (.inl (some (.int b)), (iq_sh l, I, J, X)))) : iq_Gg 4 142 (28, [some (.ref 62), some (.ref 5003), some (.int v)], [], (iq_sh l, I, J, X)) r :=
  iq_lp_ok (σ := fun v => (28, [some (.ref 62), some (.ref 5003), some (.int v)], [], (iq_sh l, I, J, X))) (Q := fun w r => (∀ a, w = .inl a → iq_Gg 4 142 (63, [none, none, none], [], (iq_sh l, I, J, X)) r) ∧ (∀ b, w = .inr b → r = (.inl (some (.int b)), (iq_sh l, I, J, X)))) (fun v q hv r h1 h2 => zT_isWord_62_5003_l28_bok l I J X v hv r h1 h2) h r hq
set_option maxRecDepth 100000 in
theorem zT_isWord_62_5003_ok (l : Nat)   (I : iq_I) (J : iq_J) (X : iq_X) {q : Int32} (h : zT_isWord_62_5003 I = some q) : iq_Cc 5 142 [.ref 62, .ref 5003] (iq_sh l, I, J, X) (.inl (some (.int q)), (iq_sh l, I, J, X)) := by
  refine iq_Cc_of (L := [some (.ref 62), some (.ref 5003), none]) rfl rfl ?_
  unfold zT_isWord_62_5003 at h
  refine iq_G_go (k := 3) (σ' := (5, [some (.ref 62), some (.ref 5003), none], [.int (1 : Int32), .int (I 62 0)], (iq_sh l, I, J, X))) (fun _ => rfl) ?_
  rcases iq_ite h with ⟨hc_, h⟩ | ⟨hc_, h⟩
  · refine iq_G_pos (c := ¬ (I 62 0) = (1 : Int32)) (σ1 := (24, [some (.ref 62), some (.ref 5003), none], [], (iq_sh l, I, J, X))) (fun _ => rfl) hc_ ?_
    refine iq_G_go (k := 1) (σ' := (25, [some (.ref 62), some (.ref 5003), none], [.int (0 : Int32)], (iq_sh l, I, J, X))) (fun _ => rfl) ?_
    cases h
    exact iq_G_ret (fun _ => rfl)
  · refine iq_G_neg (c := ¬ (I 62 0) = (1 : Int32)) (σ1 := (8, [some (.ref 62), some (.ref 5003), none], [], (iq_sh l, I, J, X))) (fun _ => rfl) hc_ ?_
    refine iq_G_go (k := 6) (σ' := (18, [some (.ref 62), some (.ref 5003), none], [.ref 5003, .int ((I 62 4) - (I 62 1))], (iq_sh l, I, J, X))) (fun _ => rfl) ?_
    obtain ⟨q1, hq1, h⟩ := iq_bnd h
    refine iq_G_call (σ' := (21, [some (.ref 62), some (.ref 5003), none], [.int q1, .int ((I 62 4) - (I 62 1))], (iq_sh l, I, J, X))) (fun _ => rfl) (zS_J0_length_8abf5_5003_ok l  I J X hq1) rfl rfl ?_
    rcases iq_ite h with ⟨hc_, h⟩ | ⟨hc_, h⟩
    · have st_ : ∀ (z_0 : Int32) (r_ : iq_R × iq_M), z_0 = q1 → iq_Gg 4 142 (26, [some (.ref 62), some (.ref 5003), none], [], (iq_sh l, I, J, X)) r_ → iq_Gg 4 142 (21, [some (.ref 62), some (.ref 5003), none], [.int q1, .int z_0], (iq_sh l, I, J, X)) r_ := fun z_0 r_ hc_ hg_ => iq_G_pos (c := z_0 = q1) (σ1 := (26, [some (.ref 62), some (.ref 5003), none], [], (iq_sh l, I, J, X))) (fun _ => rfl) hc_ hg_
      refine st_ ((I 62 4) - (I 62 1)) _ hc_ ?_
      clear st_
      refine iq_G_go (k := 2) (σ' := (28, [some (.ref 62), some (.ref 5003), some (.int (0 : Int32))], [], (iq_sh l, I, J, X))) (fun _ => rfl) ?_
      obtain ⟨w4, hw4, h⟩ := iq_bnd h
      refine iq_G_fg (L := [some (.ref 62), some (.ref 5003), some (.int (0 : Int32))]) (And.intro rfl (And.intro rfl (And.intro rfl trivial))) ?_
      refine zT_isWord_62_5003_l28_ok l I J X hw4 _ ⟨fun a5 ha => ?_, fun b6 hb => ?_⟩
      · subst ha
        replace h := ir_smL h
        show iq_Gg 4 142 (63, [none, none, none], [], (iq_sh l, I, J, X)) _
        refine iq_G_go (k := 1) (σ' := (64, [none, none, none], [.int (1 : Int32)], (iq_sh l, I, J, X))) (fun _ => rfl) ?_
        cases h
        exact iq_G_ret (fun _ => rfl)
      · subst hb
        replace h := ir_smR h
        cases h
        rfl
    · have st_ : ∀ (z_0 : Int32) (r_ : iq_R × iq_M), ¬ (z_0 = q1) → iq_Gg 4 142 (24, [some (.ref 62), some (.ref 5003), none], [], (iq_sh l, I, J, X)) r_ → iq_Gg 4 142 (21, [some (.ref 62), some (.ref 5003), none], [.int q1, .int z_0], (iq_sh l, I, J, X)) r_ := fun z_0 r_ hc_ hg_ => iq_G_neg (c := z_0 = q1) (σ1 := (24, [some (.ref 62), some (.ref 5003), none], [], (iq_sh l, I, J, X))) (fun _ => rfl) hc_ hg_
      refine st_ ((I 62 4) - (I 62 1)) _ hc_ ?_
      clear st_
      refine iq_G_go (k := 1) (σ' := (25, [some (.ref 62), some (.ref 5003), none], [.int (0 : Int32)], (iq_sh l, I, J, X))) (fun _ => rfl) ?_
      cases h
      exact iq_G_ret (fun _ => rfl)
set_option maxRecDepth 100000 in
theorem zU_putState_ok (l : Nat)  (x1 : Int32) (I : iq_I) (J : iq_J) (X : iq_X) {q : iq_I} (h : zU_putState x1 I = some q) : iq_Cc 1 38 [.ref 38, .int x1] (iq_sh l, I, J, X) (.inl none, (iq_sh l, q, J, X)) := by
  refine iq_Cc_of (L := [some (.ref 38), some (.int x1)]) rfl rfl ?_
  unfold zU_putState at h
  refine iq_G_go (k := 3) (σ' := (6, [some (.ref 38), some (.int x1)], [.int (10 : Int32), .int (I 38 0)], (iq_sh l, I, J, X))) (fun _ => rfl) ?_
  rcases iq_ite h with ⟨hc_, h⟩ | ⟨hc_, h⟩
  · refine iq_G_pos (c := (10 : Int32) ≤ (I 38 0)) (σ1 := (38, [some (.ref 38), some (.int x1)], [], (iq_sh l, I, J, X))) (fun _ => rfl) hc_ ?_
    cases h
    exact iq_G_ret (fun _ => rfl)
  · refine iq_G_neg (c := (10 : Int32) ≤ (I 38 0)) (σ1 := (9, [some (.ref 38), some (.int x1)], [], (iq_sh l, I, J, X))) (fun _ => rfl) hc_ ?_
    refine iq_G_go (k := 1) (σ' := (10, [some (.ref 38), some (.int x1)], [.int x1], (iq_sh l, I, J, X))) (fun _ => rfl) ?_
    rcases iq_ite h with ⟨hc_, h⟩ | ⟨hc_, h⟩
    · refine iq_G_pos (c := x1 = 0) (σ1 := (28, [some (.ref 38), some (.int x1)], [], (iq_sh l, I, J, X))) (fun _ => rfl) hc_ ?_
      refine iq_G_go (k := 5) (σ' := (35, [some (.ref 38), some (.int x1)], [.int ((I 38 0) + (1 : Int32)), .ref 38], (iq_sh l, I, J, X))) (fun _ => rfl) ?_
      refine iq_G_go (k := 1) (σ' := (38, [some (.ref 38), some (.int x1)], [], (iq_sh l, (iq_upI I 38 0 ((I 38 0) + (1 : Int32))), J, X))) (fun _ => rfl) ?_
      obtain ⟨I1, eI1, h⟩ := ir_letG h
      rw [← eI1]
      clear eI1
      cases h
      exact iq_G_ret (fun _ => rfl)
    · refine iq_G_neg (c := x1 = 0) (σ1 := (13, [some (.ref 38), some (.int x1)], [], (iq_sh l, I, J, X))) (fun _ => rfl) hc_ ?_
      refine iq_G_go (k := 8) (σ' := (25, [some (.ref 38), some (.int x1)], [.int ((I 38 1) ||| ((1 : Int32) <<< ((I 38 0) &&& 31))), .ref 38], (iq_sh l, I, J, X))) (fun _ => rfl) ?_
      refine iq_G_go (k := 1) (σ' := (28, [some (.ref 38), some (.int x1)], [], (iq_sh l, (iq_upI I 38 1 ((I 38 1) ||| ((1 : Int32) <<< ((I 38 0) &&& 31)))), J, X))) (fun _ => rfl) ?_
      obtain ⟨I2, eI2, h⟩ := ir_letG h
      rw [← eI2]
      clear eI2
      refine iq_G_go (k := 5) (σ' := (35, [some (.ref 38), some (.int x1)], [.int ((I2 38 0) + (1 : Int32)), .ref 38], (iq_sh l, I2, J, X))) (fun _ => rfl) ?_
      refine iq_G_go (k := 1) (σ' := (38, [some (.ref 38), some (.int x1)], [], (iq_sh l, (iq_upI I2 38 0 ((I2 38 0) + (1 : Int32))), J, X))) (fun _ => rfl) ?_
      obtain ⟨I3, eI3, h⟩ := ir_letG h
      rw [← eI3]
      clear eI3
      cases h
      exact iq_G_ret (fun _ => rfl)
set_option maxRecDepth 100000 in
theorem zT_isSign_ok (l : Nat)  (x1 : Int32) (I : iq_I) (J : iq_J) (X : iq_X) {q : Int32} (h : zT_isSign x1 I = some q) : iq_Cc 1 141 [.ref 62, .int x1] (iq_sh l, I, J, X) (.inl (some (.int q)), (iq_sh l, I, J, X)) := by
  refine iq_Cc_of (L := [some (.ref 62), some (.int x1)]) rfl rfl ?_
  unfold zT_isSign at h
  refine iq_G_go (k := 3) (σ' := (5, [some (.ref 62), some (.int x1)], [.int (3 : Int32), .int (I 62 0)], (iq_sh l, I, J, X))) (fun _ => rfl) ?_
  rcases iq_ite h with ⟨hc_, h⟩ | ⟨hc_, h⟩
  · refine iq_G_pos (c := ¬ (I 62 0) = (3 : Int32)) (σ1 := (36, [some (.ref 62), some (.int x1)], [], (iq_sh l, I, J, X))) (fun _ => rfl) hc_ ?_
    refine iq_G_go (k := 1) (σ' := (37, [some (.ref 62), some (.int x1)], [.int (0 : Int32)], (iq_sh l, I, J, X))) (fun _ => rfl) ?_
    cases h
    exact iq_G_ret (fun _ => rfl)
  · refine iq_G_neg (c := ¬ (I 62 0) = (3 : Int32)) (σ1 := (8, [some (.ref 62), some (.int x1)], [], (iq_sh l, I, J, X))) (fun _ => rfl) hc_ ?_
    refine iq_G_go (k := 4) (σ' := (16, [some (.ref 62), some (.int x1)], [.int (I 62 3), .int (I 62 1)], (iq_sh l, I, J, X))) (fun _ => rfl) ?_
    rcases iq_ite h with ⟨hc_, h⟩ | ⟨hc_, h⟩
    · refine iq_G_pos (c := (I 62 3) ≤ (I 62 1)) (σ1 := (36, [some (.ref 62), some (.int x1)], [], (iq_sh l, I, J, X))) (fun _ => rfl) hc_ ?_
      refine iq_G_go (k := 1) (σ' := (37, [some (.ref 62), some (.int x1)], [.int (0 : Int32)], (iq_sh l, I, J, X))) (fun _ => rfl) ?_
      cases h
      exact iq_G_ret (fun _ => rfl)
    · refine iq_G_neg (c := (I 62 3) ≤ (I 62 1)) (σ1 := (19, [some (.ref 62), some (.int x1)], [], (iq_sh l, I, J, X))) (fun _ => rfl) hc_ ?_
      refine iq_G_go (k := 4) (σ' := (27, [some (.ref 62), some (.int x1)], [.int (I 62 1), .ref 2], (iq_sh l, I, J, X))) (fun _ => rfl) ?_
      obtain ⟨hc_, h⟩ := iq_itn h
      refine iq_G_pos (c := iq_in (I 62 1) 700) (σ1 := (28, [some (.ref 62), some (.int x1)], [.int (I 2 (Int32.toNatClampNeg (I 62 1)))], (iq_sh l, I, J, X))) (fun _ => rfl) hc_ ?_
      refine iq_G_go (k := 1) (σ' := (29, [some (.ref 62), some (.int x1)], [.int x1, .int (I 2 (Int32.toNatClampNeg (I 62 1)))], (iq_sh l, I, J, X))) (fun _ => rfl) ?_
      rcases iq_ite h with ⟨hc_, h⟩ | ⟨hc_, h⟩
      · refine iq_G_pos (c := ¬ (I 2 (Int32.toNatClampNeg (I 62 1))) = x1) (σ1 := (36, [some (.ref 62), some (.int x1)], [], (iq_sh l, I, J, X))) (fun _ => rfl) hc_ ?_
        refine iq_G_go (k := 1) (σ' := (37, [some (.ref 62), some (.int x1)], [.int (0 : Int32)], (iq_sh l, I, J, X))) (fun _ => rfl) ?_
        cases h
        exact iq_G_ret (fun _ => rfl)
      · refine iq_G_neg (c := ¬ (I 2 (Int32.toNatClampNeg (I 62 1))) = x1) (σ1 := (32, [some (.ref 62), some (.int x1)], [], (iq_sh l, I, J, X))) (fun _ => rfl) hc_ ?_
        refine iq_G_go (k := 2) (σ' := (37, [some (.ref 62), some (.int x1)], [.int (1 : Int32)], (iq_sh l, I, J, X))) (fun _ => rfl) ?_
        cases h
        exact iq_G_ret (fun _ => rfl)
set_option maxRecDepth 100000 in
theorem zR_passLineEnd_ok (l : Nat)   (I : iq_I) (J : iq_J) (X : iq_X) {q : Int32 × iq_I} (h : zR_passLineEnd I = some q) : iq_Cc 6 107 [.ref 61] (iq_sh l, I, J, X) (.inl (some (.int q.1)), (iq_sh l, q.2, J, X)) := by
  refine iq_Cc_of (L := [some (.ref 61)]) rfl rfl ?_
  unfold zR_passLineEnd at h
  refine iq_G_go (k := 3) (σ' := (6, [some (.ref 61)], [.int (59 : Int32), .ref 62], (iq_sh l, I, J, X))) (fun _ => rfl) ?_
  obtain ⟨q1, hq1, h⟩ := iq_bnd h
  refine iq_G_call (σ' := (9, [some (.ref 61)], [.int q1], (iq_sh l, I, J, X))) (fun _ => rfl) (zT_isSign_ok l (59 : Int32) I J X hq1) rfl rfl ?_
  rcases iq_ite h with ⟨hc_, h⟩ | ⟨hc_, h⟩
  · refine iq_G_pos (c := ¬ q1 = 0) (σ1 := (18, [some (.ref 61)], [], (iq_sh l, I, J, X))) (fun _ => rfl) hc_ ?_
    refine iq_G_go (k := 2) (σ' := (22, [some (.ref 61)], [.ref 62], (iq_sh l, I, J, X))) (fun _ => rfl) ?_
    obtain ⟨q2, hq2, h⟩ := iq_bnd h
    refine iq_G_call (σ' := (25, [some (.ref 61)], [], (iq_sh l, q2, J, X))) (fun _ => rfl) (zT_next_ok l  I J X hq2) rfl rfl ?_
    refine iq_G_go (k := 1) (σ' := (26, [some (.ref 61)], [.int (1 : Int32)], (iq_sh l, q2, J, X))) (fun _ => rfl) ?_
    cases h
    exact iq_G_ret (fun _ => rfl)
  · refine iq_G_neg (c := ¬ q1 = 0) (σ1 := (12, [some (.ref 61)], [], (iq_sh l, I, J, X))) (fun _ => rfl) hc_ ?_
    refine iq_G_go (k := 2) (σ' := (14, [some (.ref 61)], [.int (1 : Int32), .ref 61], (iq_sh l, I, J, X))) (fun _ => rfl) ?_
    obtain ⟨q3, hq3, h⟩ := iq_bnd h
    refine iq_G_call (σ' := (17, [some (.ref 61)], [.int q3.1], (iq_sh l, q3.2, J, X))) (fun _ => rfl) (zR_refuse_ok l (1 : Int32) I J X hq3) rfl rfl ?_
    obtain ⟨hc_, h⟩ := iq_itn h
    have h := Option.some.inj h
    subst h
    exact iq_G_rif (c := q3.1 = 0 ∨ q3.1 = 1) (fun _ => rfl) hc_
set_option maxRecDepth 100000 in
theorem zR_readState_46_ok (l : Nat)  (x1 : Int32) (I : iq_I) (J : iq_J) (X : iq_X)  {q : Int32 × iq_I} (h : zR_readState_46 x1 I = some q)  : iq_Gg 6 87 (46, [some (.ref 61), some (.int x1)], [], (iq_sh l, I, J, X)) (.inl (some (.int q.1)), (iq_sh l, q.2, J, X)) := by
  unfold zR_readState_46 at h
  refine iq_G_go (k := 3) (σ' := (51, [some (.ref 61), some (.int x1)], [.int x1, .ref 38], (iq_sh l, I, J, X))) (fun _ => rfl) ?_
  obtain ⟨q3, hq3, h⟩ := iq_bnd h
  refine iq_G_call (σ' := (54, [some (.ref 61), some (.int x1)], [], (iq_sh l, q3, J, X))) (fun _ => rfl) (zU_putState_ok l x1 I J X hq3) rfl rfl ?_
  refine iq_G_go (k := 1) (σ' := (55, [some (.ref 61), some (.int x1)], [.ref 61], (iq_sh l, q3, J, X))) (fun _ => rfl) ?_
  obtain ⟨q4, hq4, h⟩ := iq_bnd h
  refine iq_G_call (σ' := (58, [some (.ref 61), some (.int x1)], [.int q4.1], (iq_sh l, q4.2, J, X))) (fun _ => rfl) (zR_passLineEnd_ok l  q3 J X hq4) rfl rfl ?_
  obtain ⟨hc_, h⟩ := iq_itn h
  have h := Option.some.inj h
  subst h
  exact iq_G_rif (c := q4.1 = 0 ∨ q4.1 = 1) (fun _ => rfl) hc_
set_option maxRecDepth 100000 in
theorem zR_readState_ok (l : Nat)   (I : iq_I) (J : iq_J) (X : iq_X) {q : Int32 × iq_I} (h : zR_readState I = some q) : iq_Cc 7 87 [.ref 61] (iq_sh l, I, J, X) (.inl (some (.int q.1)), (iq_sh l, q.2, J, X)) := by
  refine iq_Cc_of (L := [some (.ref 61), none]) rfl rfl ?_
  unfold zR_readState at h
  refine iq_G_go (k := 4) (σ' := (9, [some (.ref 61), none], [.int (10 : Int32), .int (I 38 0)], (iq_sh l, I, J, X))) (fun _ => rfl) ?_
  rcases iq_ite h with ⟨hc_, h⟩ | ⟨hc_, h⟩
  · refine iq_G_pos (c := (I 38 0) < (10 : Int32)) (σ1 := (18, [some (.ref 61), none], [], (iq_sh l, I, J, X))) (fun _ => rfl) hc_ ?_
    refine iq_G_go (k := 2) (σ' := (22, [some (.ref 61), none], [.ref 62], (iq_sh l, I, J, X))) (fun _ => rfl) ?_
    obtain ⟨q1, hq1, h⟩ := iq_bnd h
    refine iq_G_call (σ' := (25, [some (.ref 61), none], [], (iq_sh l, q1, J, X))) (fun _ => rfl) (zT_next_ok l  I J X hq1) rfl rfl ?_
    refine iq_G_go (k := 3) (σ' := (31, [some (.ref 61), none], [.ref 5003, .ref 62], (iq_sh l, q1, J, X))) (fun _ => rfl) ?_
    obtain ⟨q2, hq2, h⟩ := iq_bnd h
    refine iq_G_call (σ' := (34, [some (.ref 61), none], [.int q2], (iq_sh l, q1, J, X))) (fun _ => rfl) (zT_isWord_62_5003_ok l  q1 J X hq2) rfl rfl ?_
    refine iq_G_go (k := 2) (σ' := (36, [some (.ref 61), some (.int q2)], [.int q2], (iq_sh l, q1, J, X))) (fun _ => rfl) ?_
    rcases iq_ite h with ⟨hc_, h⟩ | ⟨hc_, h⟩
    · refine iq_G_pos (c := q2 = 0) (σ1 := (46, [some (.ref 61), some (.int q2)], [], (iq_sh l, q1, J, X))) (fun _ => rfl) hc_ ?_
      exact iq_G_fg (L := [some (.ref 61), some (.int q2)]) (And.intro rfl (And.intro rfl trivial)) (zR_readState_46_ok l q2 q1 J X  h )
    · refine iq_G_neg (c := q2 = 0) (σ1 := (39, [some (.ref 61), some (.int q2)], [], (iq_sh l, q1, J, X))) (fun _ => rfl) hc_ ?_
      refine iq_G_go (k := 2) (σ' := (43, [some (.ref 61), some (.int q2)], [.ref 62], (iq_sh l, q1, J, X))) (fun _ => rfl) ?_
      obtain ⟨q5, hq5, h⟩ := iq_bnd h
      refine iq_G_call (σ' := (46, [some (.ref 61), some (.int q2)], [], (iq_sh l, q5, J, X))) (fun _ => rfl) (zT_next_ok l  q1 J X hq5) rfl rfl ?_
      exact iq_G_fg (L := [some (.ref 61), some (.int q2)]) (And.intro rfl (And.intro rfl trivial)) (zR_readState_46_ok l q2 q5 J X  h )
  · refine iq_G_neg (c := (I 38 0) < (10 : Int32)) (σ1 := (12, [some (.ref 61), none], [], (iq_sh l, I, J, X))) (fun _ => rfl) hc_ ?_
    refine iq_G_go (k := 2) (σ' := (14, [some (.ref 61), none], [.int (2 : Int32), .ref 61], (iq_sh l, I, J, X))) (fun _ => rfl) ?_
    obtain ⟨q6, hq6, h⟩ := iq_bnd h
    refine iq_G_call (σ' := (17, [some (.ref 61), none], [.int q6.1], (iq_sh l, q6.2, J, X))) (fun _ => rfl) (zR_refuse_ok l (2 : Int32) I J X hq6) rfl rfl ?_
    obtain ⟨hc_, h⟩ := iq_itn h
    have h := Option.some.inj h
    subst h
    exact iq_G_rif (c := q6.1 = 0 ∨ q6.1 = 1) (fun _ => rfl) hc_
set_option maxRecDepth 100000 in
theorem zS_J0_coder_7d493_5004_ok (l : Nat)   (I : iq_I) (J : iq_J) (X : iq_X) {q : Int32} (h : zS_J0_coder_7d493_5004 I = some q) : iq_Cc 1 316 [.ref 5004] (iq_sh l, I, J, X) (.inl (some (.int q)), (iq_sh l, I, J, X)) := by
  refine iq_Cc_of (L := [some (.ref 5004)]) rfl rfl ?_
  unfold zS_J0_coder_7d493_5004 at h
  refine iq_G_go (k := 1) (σ' := (3, [some (.ref 5004)], [.int (1 : Int32)], (iq_sh l, I, J, X))) (fun _ => rfl) ?_
  refine iq_G_go (k := 1) (σ' := (6, [some (.ref 5004)], [], (iq_sh l, I, J, X))) (fun _ => rfl) ?_
  refine iq_G_go (k := 3) (σ' := (14, [some (.ref 5004)], [.int (0 : Int32)], (iq_sh l, I, J, X))) (fun _ => rfl) ?_
  cases h
  exact iq_G_ret (fun _ => rfl)
set_option maxRecDepth 100000 in
theorem zS_J0_length_8abf5_5004_ok (l : Nat)   (I : iq_I) (J : iq_J) (X : iq_X) {q : Int32} (h : zS_J0_length_8abf5_5004 I = some q) : iq_Cc 2 312 [.ref 5004] (iq_sh l, I, J, X) (.inl (some (.int q)), (iq_sh l, I, J, X)) := by
  refine iq_Cc_of (L := [some (.ref 5004)]) rfl rfl ?_
  unfold zS_J0_length_8abf5_5004 at h
  refine iq_G_go (k := 4) (σ' := (6, [some (.ref 5004)], [.ref 5004, .int (4 : Int32)], (iq_sh l, I, J, X))) (fun _ => rfl) ?_
  obtain ⟨q1, hq1, h⟩ := iq_bnd h
  refine iq_G_call (σ' := (9, [some (.ref 5004)], [.int q1, .int (4 : Int32)], (iq_sh l, I, J, X))) (fun _ => rfl) (zS_J0_coder_7d493_5004_ok l  I J X hq1) rfl rfl ?_
  refine iq_G_go (k := 1) (σ' := (10, [some (.ref 5004)], [.int ((4 : Int32) >>> (q1 &&& 31))], (iq_sh l, I, J, X))) (fun _ => rfl) ?_
  cases h
  exact iq_G_ret (fun _ => rfl)
set_option maxRecDepth 100000 in
theorem zS_J0_isLatin1_aae02_5004_ok (l : Nat)   (I : iq_I) (J : iq_J) (X : iq_X) {q : Int32} (h : zS_J0_isLatin1_aae02_5004 I = some q) : iq_Cc 1 317 [.ref 5004] (iq_sh l, I, J, X) (.inl (some (.int q)), (iq_sh l, I, J, X)) := by
  refine iq_Cc_of (L := [some (.ref 5004)]) rfl rfl ?_
  unfold zS_J0_isLatin1_aae02_5004 at h
  refine iq_G_go (k := 1) (σ' := (3, [some (.ref 5004)], [.int (1 : Int32)], (iq_sh l, I, J, X))) (fun _ => rfl) ?_
  refine iq_G_go (k := 1) (σ' := (6, [some (.ref 5004)], [], (iq_sh l, I, J, X))) (fun _ => rfl) ?_
  refine iq_G_go (k := 2) (σ' := (10, [some (.ref 5004)], [.int (0 : Int32)], (iq_sh l, I, J, X))) (fun _ => rfl) ?_
  refine iq_G_go (k := 1) (σ' := (13, [some (.ref 5004)], [], (iq_sh l, I, J, X))) (fun _ => rfl) ?_
  refine iq_G_go (k := 2) (σ' := (18, [some (.ref 5004)], [.int (1 : Int32)], (iq_sh l, I, J, X))) (fun _ => rfl) ?_
  cases h
  exact iq_G_ret (fun _ => rfl)
set_option maxRecDepth 100000 in
theorem zS_J1_charAt_3b067_6004_ok (l : Nat)  (x1 : Int32) (I : iq_I) (J : iq_J) (X : iq_X) {q : Int32} (h : zS_J1_charAt_3b067_6004 x1 I = some q) : iq_Cc 3 319 [.ref 6004, .int x1] (iq_sh l, I, J, X) (.inl (some (.int q)), (iq_sh l, I, J, X)) := by
  refine iq_Cc_of (L := [some (.ref 6004), some (.int x1)]) rfl rfl ?_
  unfold zS_J1_charAt_3b067_6004 at h
  refine iq_G_go (k := 3) (σ' := (3, [some (.ref 6004), some (.int x1)], [.int (4 : Int32), .int x1], (iq_sh l, I, J, X))) (fun _ => rfl) ?_
  obtain ⟨q1, hq1, h⟩ := iq_bnd h
  refine iq_G_call (σ' := (6, [some (.ref 6004), some (.int x1)], [], (iq_sh l, I, J, X))) (fun _ => rfl) (zS_J0_checkIndex_df160_ok l x1 (4 : Int32) I J X hq1) rfl rfl ?_
  refine iq_G_go (k := 2) (σ' := (8, [some (.ref 6004), some (.int x1)], [.int x1, .ref 6004], (iq_sh l, I, J, X))) (fun _ => rfl) ?_
  obtain ⟨hc_, h⟩ := iq_itn h
  refine iq_G_pos (c := iq_in x1 4) (σ1 := (9, [some (.ref 6004), some (.int x1)], [.int (ir_chr 4 (Int32.toNatClampNeg x1))], (iq_sh l, I, J, X))) (fun _ => rfl) hc_ ?_
  refine iq_G_go (k := 3) (σ' := (14, [some (.ref 6004), some (.int x1)], [.int ((Int32.toUInt32 ((ir_chr 4 (Int32.toNatClampNeg x1)) &&& (255 : Int32)) % 65536).toInt32)], (iq_sh l, I, J, X))) (fun _ => rfl) ?_
  obtain ⟨hc_, h⟩ := iq_itn h
  have h := Option.some.inj h
  subst h
  exact iq_G_rif (c := narrow .char (.int ((Int32.toUInt32 ((ir_chr 4 (Int32.toNatClampNeg x1)) &&& (255 : Int32)) % 65536).toInt32)) = .int ((Int32.toUInt32 ((ir_chr 4 (Int32.toNatClampNeg x1)) &&& (255 : Int32)) % 65536).toInt32)) (fun _ => rfl) hc_
set_option maxRecDepth 100000 in
theorem zS_J0_charAt_5068e_5004_ok (l : Nat)  (x1 : Int32) (I : iq_I) (J : iq_J) (X : iq_X) {q : Int32} (h : zS_J0_charAt_5068e_5004 x1 I = some q) : iq_Cc 4 313 [.ref 5004, .int x1] (iq_sh l, I, J, X) (.inl (some (.int q)), (iq_sh l, I, J, X)) := by
  refine iq_Cc_of (L := [some (.ref 5004), some (.int x1)]) rfl rfl ?_
  unfold zS_J0_charAt_5068e_5004 at h
  refine iq_G_go (k := 1) (σ' := (1, [some (.ref 5004), some (.int x1)], [.ref 5004], (iq_sh l, I, J, X))) (fun _ => rfl) ?_
  obtain ⟨q1, hq1, h⟩ := iq_bnd h
  refine iq_G_call (σ' := (4, [some (.ref 5004), some (.int x1)], [.int q1], (iq_sh l, I, J, X))) (fun _ => rfl) (zS_J0_isLatin1_aae02_5004_ok l  I J X hq1) rfl rfl ?_
  rcases iq_ite h with ⟨hc_, h⟩ | ⟨hc_, h⟩
  · refine iq_G_pos (c := q1 = 0) (σ1 := (16, [some (.ref 5004), some (.int x1)], [], (iq_sh l, I, J, X))) (fun _ => rfl) hc_ ?_
    cases h
  · refine iq_G_neg (c := q1 = 0) (σ1 := (7, [some (.ref 5004), some (.int x1)], [], (iq_sh l, I, J, X))) (fun _ => rfl) hc_ ?_
    refine iq_G_go (k := 3) (σ' := (12, [some (.ref 5004), some (.int x1)], [.int x1, .ref 6004], (iq_sh l, I, J, X))) (fun _ => rfl) ?_
    obtain ⟨q2, hq2, h⟩ := iq_bnd h
    refine iq_G_call (σ' := (15, [some (.ref 5004), some (.int x1)], [.int q2], (iq_sh l, I, J, X))) (fun _ => rfl) (zS_J1_charAt_3b067_6004_ok l x1 I J X hq2) rfl rfl ?_
    obtain ⟨hc_, h⟩ := iq_itn h
    have h := Option.some.inj h
    subst h
    exact iq_G_rif (c := narrow .char (.int q2) = .int q2) (fun _ => rfl) hc_
set_option maxRecDepth 100000 in
theorem zT_isWord_62_5004_l28_bok (l : Nat)   (I : iq_I) (J : iq_J) (X : iq_X) (x2 : Int32)  {q : (Int32) ⊕ ((Unit) ⊕ (Int32))} (h : zT_isWord_62_5004_l28_b I x2 = some q) (r : iq_R × iq_M) (hc : ∀ v, q = .inl v → iq_Gg 4 142 (28, [some (.ref 62), some (.ref 5004), some (.int v)], [], (iq_sh l, I, J, X)) r) (hx : ∀ w, q = .inr w → (∀ a, w = .inl a → iq_Gg 4 142 (63, [none, none, none], [], (iq_sh l, I, J, X)) r) ∧ (∀ b, w = .inr b → r = (.inl (some (.int b)), (iq_sh l, I, J, X)))) : iq_Gg 4 142 (28, [some (.ref 62), some (.ref 5004), some (.int x2)], [], (iq_sh l, I, J, X)) r := by
  unfold zT_isWord_62_5004_l28_b at h
  refine iq_G_go (k := 2) (σ' := (30, [some (.ref 62), some (.ref 5004), some (.int x2)], [.ref 5004, .int x2], (iq_sh l, I, J, X))) (fun _ => rfl) ?_
  obtain ⟨q2, hq2, h⟩ := iq_bnd h
  refine iq_G_call (σ' := (33, [some (.ref 62), some (.ref 5004), some (.int x2)], [.int q2, .int x2], (iq_sh l, I, J, X))) (fun _ => rfl) (zS_J0_length_8abf5_5004_ok l  I J X hq2) rfl rfl ?_
  rcases iq_ite h with ⟨hc_, h⟩ | ⟨hc_, h⟩
  · refine iq_G_pos (c := q2 ≤ x2) (σ1 := (63, [some (.ref 62), some (.ref 5004), some (.int x2)], [], (iq_sh l, I, J, X))) (fun _ => rfl) hc_ ?_
    cases h
    exact iq_G_fg (L := [none, none, none]) trivial ((hx (.inl ()) rfl).1 () rfl)
  · refine iq_G_neg (c := q2 ≤ x2) (σ1 := (36, [some (.ref 62), some (.ref 5004), some (.int x2)], [], (iq_sh l, I, J, X))) (fun _ => rfl) hc_ ?_
    refine iq_G_go (k := 6) (σ' := (46, [some (.ref 62), some (.ref 5004), some (.int x2)], [.int ((I 62 1) + x2), .ref 2], (iq_sh l, I, J, X))) (fun _ => rfl) ?_
    obtain ⟨hc_, h⟩ := iq_itn h
    refine iq_G_pos (c := iq_in ((I 62 1) + x2) 700) (σ1 := (47, [some (.ref 62), some (.ref 5004), some (.int x2)], [.int (I 2 (Int32.toNatClampNeg ((I 62 1) + x2)))], (iq_sh l, I, J, X))) (fun _ => rfl) hc_ ?_
    refine iq_G_go (k := 2) (σ' := (49, [some (.ref 62), some (.ref 5004), some (.int x2)], [.int x2, .ref 5004, .int (I 2 (Int32.toNatClampNeg ((I 62 1) + x2)))], (iq_sh l, I, J, X))) (fun _ => rfl) ?_
    obtain ⟨q3, hq3, h⟩ := iq_bnd h
    refine iq_G_call (σ' := (52, [some (.ref 62), some (.ref 5004), some (.int x2)], [.int q3, .int (I 2 (Int32.toNatClampNeg ((I 62 1) + x2)))], (iq_sh l, I, J, X))) (fun _ => rfl) (zS_J0_charAt_5068e_5004_ok l x2 I J X hq3) rfl rfl ?_
    rcases iq_ite h with ⟨hc_, h⟩ | ⟨hc_, h⟩
    · refine iq_G_pos (c := (I 2 (Int32.toNatClampNeg ((I 62 1) + x2))) = q3) (σ1 := (57, [some (.ref 62), some (.ref 5004), some (.int x2)], [], (iq_sh l, I, J, X))) (fun _ => rfl) hc_ ?_
      refine iq_G_go (k := 2) (σ' := (28, [some (.ref 62), some (.ref 5004), some (.int (x2 + (1 : Int32)))], [], (iq_sh l, I, J, X))) (fun _ => rfl) ?_
      cases h
      exact iq_G_fg (L := [some (.ref 62), some (.ref 5004), some (.int (x2 + (1 : Int32)))]) (And.intro rfl (And.intro rfl (And.intro rfl trivial))) (hc (x2 + (1 : Int32)) rfl)
    · refine iq_G_neg (c := (I 2 (Int32.toNatClampNeg ((I 62 1) + x2))) = q3) (σ1 := (55, [some (.ref 62), some (.ref 5004), some (.int x2)], [], (iq_sh l, I, J, X))) (fun _ => rfl) hc_ ?_
      refine iq_G_go (k := 1) (σ' := (56, [some (.ref 62), some (.ref 5004), some (.int x2)], [.int (0 : Int32)], (iq_sh l, I, J, X))) (fun _ => rfl) ?_
      cases h
      obtain rfl := (hx _ rfl).2 _ rfl
      exact iq_G_ret (fun _ => rfl)
set_option maxRecDepth 100000 in
theorem zT_isWord_62_5004_l28_ok (l : Nat)   (I : iq_I) (J : iq_J) (X : iq_X) {n : Nat} {v : Int32} {w : (Unit) ⊕ (Int32)} (h : zT_isWord_62_5004_l28 I n v = some w) (r : iq_R × iq_M) (hq : (∀ a, w = .inl a → iq_Gg 4 142 (63, [none, none, none], [], (iq_sh l, I, J, X)) r) ∧ (∀ b, w = .inr b → r = (.inl (some (.int b)), (iq_sh l, I, J, X)))) : iq_Gg 4 142 (28, [some (.ref 62), some (.ref 5004), some (.int v)], [], (iq_sh l, I, J, X)) r :=
  iq_lp_ok (σ := fun v => (28, [some (.ref 62), some (.ref 5004), some (.int v)], [], (iq_sh l, I, J, X))) (Q := fun w r => (∀ a, w = .inl a → iq_Gg 4 142 (63, [none, none, none], [], (iq_sh l, I, J, X)) r) ∧ (∀ b, w = .inr b → r = (.inl (some (.int b)), (iq_sh l, I, J, X)))) (fun v q hv r h1 h2 => zT_isWord_62_5004_l28_bok l I J X v hv r h1 h2) h r hq
set_option maxRecDepth 100000 in
theorem zT_isWord_62_5004_ok (l : Nat)   (I : iq_I) (J : iq_J) (X : iq_X) {q : Int32} (h : zT_isWord_62_5004 I = some q) : iq_Cc 5 142 [.ref 62, .ref 5004] (iq_sh l, I, J, X) (.inl (some (.int q)), (iq_sh l, I, J, X)) := by
  refine iq_Cc_of (L := [some (.ref 62), some (.ref 5004), none]) rfl rfl ?_
  unfold zT_isWord_62_5004 at h
  refine iq_G_go (k := 3) (σ' := (5, [some (.ref 62), some (.ref 5004), none], [.int (1 : Int32), .int (I 62 0)], (iq_sh l, I, J, X))) (fun _ => rfl) ?_
  rcases iq_ite h with ⟨hc_, h⟩ | ⟨hc_, h⟩
  · refine iq_G_pos (c := ¬ (I 62 0) = (1 : Int32)) (σ1 := (24, [some (.ref 62), some (.ref 5004), none], [], (iq_sh l, I, J, X))) (fun _ => rfl) hc_ ?_
    refine iq_G_go (k := 1) (σ' := (25, [some (.ref 62), some (.ref 5004), none], [.int (0 : Int32)], (iq_sh l, I, J, X))) (fun _ => rfl) ?_
    cases h
    exact iq_G_ret (fun _ => rfl)
  · refine iq_G_neg (c := ¬ (I 62 0) = (1 : Int32)) (σ1 := (8, [some (.ref 62), some (.ref 5004), none], [], (iq_sh l, I, J, X))) (fun _ => rfl) hc_ ?_
    refine iq_G_go (k := 6) (σ' := (18, [some (.ref 62), some (.ref 5004), none], [.ref 5004, .int ((I 62 4) - (I 62 1))], (iq_sh l, I, J, X))) (fun _ => rfl) ?_
    obtain ⟨q1, hq1, h⟩ := iq_bnd h
    refine iq_G_call (σ' := (21, [some (.ref 62), some (.ref 5004), none], [.int q1, .int ((I 62 4) - (I 62 1))], (iq_sh l, I, J, X))) (fun _ => rfl) (zS_J0_length_8abf5_5004_ok l  I J X hq1) rfl rfl ?_
    rcases iq_ite h with ⟨hc_, h⟩ | ⟨hc_, h⟩
    · have st_ : ∀ (z_0 : Int32) (r_ : iq_R × iq_M), z_0 = q1 → iq_Gg 4 142 (26, [some (.ref 62), some (.ref 5004), none], [], (iq_sh l, I, J, X)) r_ → iq_Gg 4 142 (21, [some (.ref 62), some (.ref 5004), none], [.int q1, .int z_0], (iq_sh l, I, J, X)) r_ := fun z_0 r_ hc_ hg_ => iq_G_pos (c := z_0 = q1) (σ1 := (26, [some (.ref 62), some (.ref 5004), none], [], (iq_sh l, I, J, X))) (fun _ => rfl) hc_ hg_
      refine st_ ((I 62 4) - (I 62 1)) _ hc_ ?_
      clear st_
      refine iq_G_go (k := 2) (σ' := (28, [some (.ref 62), some (.ref 5004), some (.int (0 : Int32))], [], (iq_sh l, I, J, X))) (fun _ => rfl) ?_
      obtain ⟨w4, hw4, h⟩ := iq_bnd h
      refine iq_G_fg (L := [some (.ref 62), some (.ref 5004), some (.int (0 : Int32))]) (And.intro rfl (And.intro rfl (And.intro rfl trivial))) ?_
      refine zT_isWord_62_5004_l28_ok l I J X hw4 _ ⟨fun a5 ha => ?_, fun b6 hb => ?_⟩
      · subst ha
        replace h := ir_smL h
        show iq_Gg 4 142 (63, [none, none, none], [], (iq_sh l, I, J, X)) _
        refine iq_G_go (k := 1) (σ' := (64, [none, none, none], [.int (1 : Int32)], (iq_sh l, I, J, X))) (fun _ => rfl) ?_
        cases h
        exact iq_G_ret (fun _ => rfl)
      · subst hb
        replace h := ir_smR h
        cases h
        rfl
    · have st_ : ∀ (z_0 : Int32) (r_ : iq_R × iq_M), ¬ (z_0 = q1) → iq_Gg 4 142 (24, [some (.ref 62), some (.ref 5004), none], [], (iq_sh l, I, J, X)) r_ → iq_Gg 4 142 (21, [some (.ref 62), some (.ref 5004), none], [.int q1, .int z_0], (iq_sh l, I, J, X)) r_ := fun z_0 r_ hc_ hg_ => iq_G_neg (c := z_0 = q1) (σ1 := (24, [some (.ref 62), some (.ref 5004), none], [], (iq_sh l, I, J, X))) (fun _ => rfl) hc_ hg_
      refine st_ ((I 62 4) - (I 62 1)) _ hc_ ?_
      clear st_
      refine iq_G_go (k := 1) (σ' := (25, [some (.ref 62), some (.ref 5004), none], [.int (0 : Int32)], (iq_sh l, I, J, X))) (fun _ => rfl) ?_
      cases h
      exact iq_G_ret (fun _ => rfl)
set_option maxRecDepth 100000 in
theorem zT_size_ok (l : Nat)   (I : iq_I) (J : iq_J) (X : iq_X) {q : Int32} (h : zT_size I = some q) : iq_Cc 1 140 [.ref 62] (iq_sh l, I, J, X) (.inl (some (.int q)), (iq_sh l, I, J, X)) := by
  refine iq_Cc_of (L := [some (.ref 62)]) rfl rfl ?_
  unfold zT_size at h
  refine iq_G_go (k := 5) (σ' := (9, [some (.ref 62)], [.int ((I 62 4) - (I 62 1))], (iq_sh l, I, J, X))) (fun _ => rfl) ?_
  cases h
  exact iq_G_ret (fun _ => rfl)
set_option maxRecDepth 100000 in
theorem zU_lengthOf_38_ok (l : Nat)  (x1 : Int32) (I : iq_I) (J : iq_J) (X : iq_X) {q : Int32} (h : zU_lengthOf_38 x1 I = some q) : iq_Cc 1 45 [.ref 38, .int x1] (iq_sh l, I, J, X) (.inl (some (.int q)), (iq_sh l, I, J, X)) := by
  refine iq_Cc_of (L := [some (.ref 38), some (.int x1)]) rfl rfl ?_
  unfold zU_lengthOf_38 at h
  refine iq_G_go (k := 1) (σ' := (1, [some (.ref 38), some (.int x1)], [.int x1], (iq_sh l, I, J, X))) (fun _ => rfl) ?_
  rcases iq_ite h with ⟨hc_, h⟩ | ⟨hc_, h⟩
  · refine iq_G_pos (c := x1 < 0) (σ1 := (12, [some (.ref 38), some (.int x1)], [], (iq_sh l, I, J, X))) (fun _ => rfl) hc_ ?_
    refine iq_G_go (k := 2) (σ' := (22, [some (.ref 38), some (.int x1)], [.int (0 : Int32)], (iq_sh l, I, J, X))) (fun _ => rfl) ?_
    cases h
    exact iq_G_ret (fun _ => rfl)
  · refine iq_G_neg (c := x1 < 0) (σ1 := (4, [some (.ref 38), some (.int x1)], [], (iq_sh l, I, J, X))) (fun _ => rfl) hc_ ?_
    refine iq_G_go (k := 3) (σ' := (9, [some (.ref 38), some (.int x1)], [.int (I 38 2), .int x1], (iq_sh l, I, J, X))) (fun _ => rfl) ?_
    rcases iq_ite h with ⟨hc_, h⟩ | ⟨hc_, h⟩
    · refine iq_G_pos (c := x1 < (I 38 2)) (σ1 := (16, [some (.ref 38), some (.int x1)], [], (iq_sh l, I, J, X))) (fun _ => rfl) hc_ ?_
      refine iq_G_go (k := 3) (σ' := (21, [some (.ref 38), some (.int x1)], [.int x1, .ref 39], (iq_sh l, I, J, X))) (fun _ => rfl) ?_
      obtain ⟨hc_, h⟩ := iq_itn h
      refine iq_G_pos (c := iq_in x1 14) (σ1 := (22, [some (.ref 38), some (.int x1)], [.int (I 39 (Int32.toNatClampNeg x1))], (iq_sh l, I, J, X))) (fun _ => rfl) hc_ ?_
      cases h
      exact iq_G_ret (fun _ => rfl)
    · refine iq_G_neg (c := x1 < (I 38 2)) (σ1 := (12, [some (.ref 38), some (.int x1)], [], (iq_sh l, I, J, X))) (fun _ => rfl) hc_ ?_
      refine iq_G_go (k := 2) (σ' := (22, [some (.ref 38), some (.int x1)], [.int (0 : Int32)], (iq_sh l, I, J, X))) (fun _ => rfl) ?_
      cases h
      exact iq_G_ret (fun _ => rfl)
set_option maxRecDepth 100000 in
theorem zU_letterAt_38_ok (l : Nat)  (x1 : Int32) (x2 : Int32) (I : iq_I) (J : iq_J) (X : iq_X) {q : Int32} (h : zU_letterAt_38 x1 x2 I = some q) : iq_Cc 1 43 [.ref 38, .int x1, .int x2] (iq_sh l, I, J, X) (.inl (some (.int q)), (iq_sh l, I, J, X)) := by
  refine iq_Cc_of (L := [some (.ref 38), some (.int x1), some (.int x2)]) rfl rfl ?_
  unfold zU_letterAt_38 at h
  refine iq_G_go (k := 1) (σ' := (1, [some (.ref 38), some (.int x1), some (.int x2)], [.int x1], (iq_sh l, I, J, X))) (fun _ => rfl) ?_
  rcases iq_ite h with ⟨hc_, h⟩ | ⟨hc_, h⟩
  · refine iq_G_pos (c := x1 < 0) (σ1 := (20, [some (.ref 38), some (.int x1), some (.int x2)], [], (iq_sh l, I, J, X))) (fun _ => rfl) hc_ ?_
    refine iq_G_go (k := 1) (σ' := (21, [some (.ref 38), some (.int x1), some (.int x2)], [.int (0 : Int32)], (iq_sh l, I, J, X))) (fun _ => rfl) ?_
    cases h
    exact iq_G_ret (fun _ => rfl)
  · refine iq_G_neg (c := x1 < 0) (σ1 := (4, [some (.ref 38), some (.int x1), some (.int x2)], [], (iq_sh l, I, J, X))) (fun _ => rfl) hc_ ?_
    refine iq_G_go (k := 2) (σ' := (7, [some (.ref 38), some (.int x1), some (.int x2)], [.int (14 : Int32), .int x1], (iq_sh l, I, J, X))) (fun _ => rfl) ?_
    rcases iq_ite h with ⟨hc_, h⟩ | ⟨hc_, h⟩
    · refine iq_G_pos (c := (14 : Int32) ≤ x1) (σ1 := (20, [some (.ref 38), some (.int x1), some (.int x2)], [], (iq_sh l, I, J, X))) (fun _ => rfl) hc_ ?_
      refine iq_G_go (k := 1) (σ' := (21, [some (.ref 38), some (.int x1), some (.int x2)], [.int (0 : Int32)], (iq_sh l, I, J, X))) (fun _ => rfl) ?_
      cases h
      exact iq_G_ret (fun _ => rfl)
    · refine iq_G_neg (c := (14 : Int32) ≤ x1) (σ1 := (10, [some (.ref 38), some (.int x1), some (.int x2)], [], (iq_sh l, I, J, X))) (fun _ => rfl) hc_ ?_
      refine iq_G_go (k := 1) (σ' := (11, [some (.ref 38), some (.int x1), some (.int x2)], [.int x2], (iq_sh l, I, J, X))) (fun _ => rfl) ?_
      rcases iq_ite h with ⟨hc_, h⟩ | ⟨hc_, h⟩
      · refine iq_G_pos (c := x2 < 0) (σ1 := (20, [some (.ref 38), some (.int x1), some (.int x2)], [], (iq_sh l, I, J, X))) (fun _ => rfl) hc_ ?_
        refine iq_G_go (k := 1) (σ' := (21, [some (.ref 38), some (.int x1), some (.int x2)], [.int (0 : Int32)], (iq_sh l, I, J, X))) (fun _ => rfl) ?_
        cases h
        exact iq_G_ret (fun _ => rfl)
      · refine iq_G_neg (c := x2 < 0) (σ1 := (14, [some (.ref 38), some (.int x1), some (.int x2)], [], (iq_sh l, I, J, X))) (fun _ => rfl) hc_ ?_
        refine iq_G_go (k := 2) (σ' := (17, [some (.ref 38), some (.int x1), some (.int x2)], [.int (9 : Int32), .int x2], (iq_sh l, I, J, X))) (fun _ => rfl) ?_
        rcases iq_ite h with ⟨hc_, h⟩ | ⟨hc_, h⟩
        · refine iq_G_pos (c := x2 < (9 : Int32)) (σ1 := (22, [some (.ref 38), some (.int x1), some (.int x2)], [], (iq_sh l, I, J, X))) (fun _ => rfl) hc_ ?_
          refine iq_G_go (k := 7) (σ' := (32, [some (.ref 38), some (.int x1), some (.int x2)], [.int ((x1 * (9 : Int32)) + x2), .ref 47], (iq_sh l, I, J, X))) (fun _ => rfl) ?_
          obtain ⟨hc_, h⟩ := iq_itn h
          refine iq_G_pos (c := iq_in ((x1 * (9 : Int32)) + x2) 126) (σ1 := (33, [some (.ref 38), some (.int x1), some (.int x2)], [.int (I 47 (Int32.toNatClampNeg ((x1 * (9 : Int32)) + x2)))], (iq_sh l, I, J, X))) (fun _ => rfl) hc_ ?_
          cases h
          exact iq_G_ret (fun _ => rfl)
        · refine iq_G_neg (c := x2 < (9 : Int32)) (σ1 := (20, [some (.ref 38), some (.int x1), some (.int x2)], [], (iq_sh l, I, J, X))) (fun _ => rfl) hc_ ?_
          refine iq_G_go (k := 1) (σ' := (21, [some (.ref 38), some (.int x1), some (.int x2)], [.int (0 : Int32)], (iq_sh l, I, J, X))) (fun _ => rfl) ?_
          cases h
          exact iq_G_ret (fun _ => rfl)
set_option maxRecDepth 100000 in
theorem zT_letterNumber_ok (l : Nat)  (x1 : Int32) (I : iq_I) (J : iq_J) (X : iq_X) {q : Int32} (h : zT_letterNumber x1 I = some q) : iq_Cc 1 143 [.ref 62, .int x1] (iq_sh l, I, J, X) (.inl (some (.int q)), (iq_sh l, I, J, X)) := by
  refine iq_Cc_of (L := [some (.ref 62), some (.int x1)]) rfl rfl ?_
  unfold zT_letterNumber at h
  refine iq_G_go (k := 1) (σ' := (1, [some (.ref 62), some (.int x1)], [.int x1], (iq_sh l, I, J, X))) (fun _ => rfl) ?_
  rcases iq_ite h with ⟨hc_, h⟩ | ⟨hc_, h⟩
  · refine iq_G_pos (c := x1 < 0) (σ1 := (17, [some (.ref 62), some (.int x1)], [], (iq_sh l, I, J, X))) (fun _ => rfl) hc_ ?_
    refine iq_G_go (k := 2) (σ' := (37, [some (.ref 62), some (.int x1)], [.int (0 : Int32)], (iq_sh l, I, J, X))) (fun _ => rfl) ?_
    cases h
    exact iq_G_ret (fun _ => rfl)
  · refine iq_G_neg (c := x1 < 0) (σ1 := (4, [some (.ref 62), some (.int x1)], [], (iq_sh l, I, J, X))) (fun _ => rfl) hc_ ?_
    refine iq_G_go (k := 6) (σ' := (14, [some (.ref 62), some (.int x1)], [.int ((I 62 4) - (I 62 1)), .int x1], (iq_sh l, I, J, X))) (fun _ => rfl) ?_
    rcases iq_ite h with ⟨hc_, h⟩ | ⟨hc_, h⟩
    · have st_ : ∀ (z_0 : Int32) (r_ : iq_R × iq_M), x1 < z_0 → iq_Gg 0 143 (21, [some (.ref 62), some (.int x1)], [], (iq_sh l, I, J, X)) r_ → iq_Gg 0 143 (14, [some (.ref 62), some (.int x1)], [.int z_0, .int x1], (iq_sh l, I, J, X)) r_ := fun z_0 r_ hc_ hg_ => iq_G_pos (c := x1 < z_0) (σ1 := (21, [some (.ref 62), some (.int x1)], [], (iq_sh l, I, J, X))) (fun _ => rfl) hc_ hg_
      refine st_ ((I 62 4) - (I 62 1)) _ hc_ ?_
      clear st_
      refine iq_G_go (k := 6) (σ' := (31, [some (.ref 62), some (.int x1)], [.int ((I 62 1) + x1), .ref 2], (iq_sh l, I, J, X))) (fun _ => rfl) ?_
      obtain ⟨hc_, h⟩ := iq_itn h
      refine iq_G_pos (c := iq_in ((I 62 1) + x1) 700) (σ1 := (32, [some (.ref 62), some (.int x1)], [.int (I 2 (Int32.toNatClampNeg ((I 62 1) + x1)))], (iq_sh l, I, J, X))) (fun _ => rfl) hc_ ?_
      refine iq_G_go (k := 4) (σ' := (37, [some (.ref 62), some (.int x1)], [.int (((I 2 (Int32.toNatClampNeg ((I 62 1) + x1))) - (97 : Int32)) + (1 : Int32))], (iq_sh l, I, J, X))) (fun _ => rfl) ?_
      cases h
      exact iq_G_ret (fun _ => rfl)
    · have st_ : ∀ (z_0 : Int32) (r_ : iq_R × iq_M), ¬ (x1 < z_0) → iq_Gg 0 143 (17, [some (.ref 62), some (.int x1)], [], (iq_sh l, I, J, X)) r_ → iq_Gg 0 143 (14, [some (.ref 62), some (.int x1)], [.int z_0, .int x1], (iq_sh l, I, J, X)) r_ := fun z_0 r_ hc_ hg_ => iq_G_neg (c := x1 < z_0) (σ1 := (17, [some (.ref 62), some (.int x1)], [], (iq_sh l, I, J, X))) (fun _ => rfl) hc_ hg_
      refine st_ ((I 62 4) - (I 62 1)) _ hc_ ?_
      clear st_
      refine iq_G_go (k := 2) (σ' := (37, [some (.ref 62), some (.int x1)], [.int (0 : Int32)], (iq_sh l, I, J, X))) (fun _ => rfl) ?_
      cases h
      exact iq_G_ret (fun _ => rfl)
set_option maxRecDepth 100000 in
theorem zR_isRowOf_l24_bok (l : Nat)  (x1 : Int32) (x2 : Int32) (I : iq_I) (J : iq_J) (X : iq_X) (x3 : Int32)  {q : (Int32) ⊕ ((Unit) ⊕ (Int32))} (h : zR_isRowOf_l24_b x1 x2 I x3 = some q) (r : iq_R × iq_M) (hc : ∀ v, q = .inl v → iq_Gg 1 90 (24, [some (.ref 61), some (.int x1), some (.int x2), some (.int v)], [], (iq_sh l, I, J, X)) r) (hx : ∀ w, q = .inr w → (∀ a, w = .inl a → iq_Gg 1 90 (57, [none, none, none, none], [], (iq_sh l, I, J, X)) r) ∧ (∀ b, w = .inr b → r = (.inl (some (.int b)), (iq_sh l, I, J, X)))) : iq_Gg 1 90 (24, [some (.ref 61), some (.int x1), some (.int x2), some (.int x3)], [], (iq_sh l, I, J, X)) r := by
  unfold zR_isRowOf_l24_b at h
  refine iq_G_go (k := 2) (σ' := (26, [some (.ref 61), some (.int x1), some (.int x2), some (.int x3)], [.int x2, .int x3], (iq_sh l, I, J, X))) (fun _ => rfl) ?_
  rcases iq_ite h with ⟨hc_, h⟩ | ⟨hc_, h⟩
  · refine iq_G_pos (c := x2 ≤ x3) (σ1 := (57, [some (.ref 61), some (.int x1), some (.int x2), some (.int x3)], [], (iq_sh l, I, J, X))) (fun _ => rfl) hc_ ?_
    cases h
    exact iq_G_fg (L := [none, none, none, none]) trivial ((hx (.inl ()) rfl).1 () rfl)
  · refine iq_G_neg (c := x2 ≤ x3) (σ1 := (29, [some (.ref 61), some (.int x1), some (.int x2), some (.int x3)], [], (iq_sh l, I, J, X))) (fun _ => rfl) hc_ ?_
    refine iq_G_go (k := 4) (σ' := (35, [some (.ref 61), some (.int x1), some (.int x2), some (.int x3)], [.int x3, .int x1, .ref 38], (iq_sh l, I, J, X))) (fun _ => rfl) ?_
    obtain ⟨q3, hq3, h⟩ := iq_bnd h
    refine iq_G_call (σ' := (38, [some (.ref 61), some (.int x1), some (.int x2), some (.int x3)], [.int q3], (iq_sh l, I, J, X))) (fun _ => rfl) (zU_letterAt_38_ok l x1 x3 I J X hq3) rfl rfl ?_
    refine iq_G_go (k := 3) (σ' := (43, [some (.ref 61), some (.int x1), some (.int x2), some (.int x3)], [.int x3, .ref 62, .int q3], (iq_sh l, I, J, X))) (fun _ => rfl) ?_
    obtain ⟨q4, hq4, h⟩ := iq_bnd h
    refine iq_G_call (σ' := (46, [some (.ref 61), some (.int x1), some (.int x2), some (.int x3)], [.int q4, .int q3], (iq_sh l, I, J, X))) (fun _ => rfl) (zT_letterNumber_ok l x3 I J X hq4) rfl rfl ?_
    rcases iq_ite h with ⟨hc_, h⟩ | ⟨hc_, h⟩
    · refine iq_G_pos (c := q3 = q4) (σ1 := (51, [some (.ref 61), some (.int x1), some (.int x2), some (.int x3)], [], (iq_sh l, I, J, X))) (fun _ => rfl) hc_ ?_
      refine iq_G_go (k := 2) (σ' := (24, [some (.ref 61), some (.int x1), some (.int x2), some (.int (x3 + (1 : Int32)))], [], (iq_sh l, I, J, X))) (fun _ => rfl) ?_
      cases h
      exact iq_G_fg (L := [some (.ref 61), some (.int x1), some (.int x2), some (.int (x3 + (1 : Int32)))]) (And.intro rfl (And.intro rfl (And.intro rfl (And.intro rfl trivial)))) (hc (x3 + (1 : Int32)) rfl)
    · refine iq_G_neg (c := q3 = q4) (σ1 := (49, [some (.ref 61), some (.int x1), some (.int x2), some (.int x3)], [], (iq_sh l, I, J, X))) (fun _ => rfl) hc_ ?_
      refine iq_G_go (k := 1) (σ' := (50, [some (.ref 61), some (.int x1), some (.int x2), some (.int x3)], [.int (0 : Int32)], (iq_sh l, I, J, X))) (fun _ => rfl) ?_
      cases h
      obtain rfl := (hx _ rfl).2 _ rfl
      exact iq_G_ret (fun _ => rfl)
set_option maxRecDepth 100000 in
theorem zR_isRowOf_l24_ok (l : Nat)  (x1 : Int32) (x2 : Int32) (I : iq_I) (J : iq_J) (X : iq_X) {n : Nat} {v : Int32} {w : (Unit) ⊕ (Int32)} (h : zR_isRowOf_l24 x1 x2 I n v = some w) (r : iq_R × iq_M) (hq : (∀ a, w = .inl a → iq_Gg 1 90 (57, [none, none, none, none], [], (iq_sh l, I, J, X)) r) ∧ (∀ b, w = .inr b → r = (.inl (some (.int b)), (iq_sh l, I, J, X)))) : iq_Gg 1 90 (24, [some (.ref 61), some (.int x1), some (.int x2), some (.int v)], [], (iq_sh l, I, J, X)) r :=
  iq_lp_ok (σ := fun v => (24, [some (.ref 61), some (.int x1), some (.int x2), some (.int v)], [], (iq_sh l, I, J, X))) (Q := fun w r => (∀ a, w = .inl a → iq_Gg 1 90 (57, [none, none, none, none], [], (iq_sh l, I, J, X)) r) ∧ (∀ b, w = .inr b → r = (.inl (some (.int b)), (iq_sh l, I, J, X)))) (fun v q hv r h1 h2 => zR_isRowOf_l24_bok l x1 x2 I J X v hv r h1 h2) h r hq
set_option maxRecDepth 100000 in
theorem zR_isRowOf_ok (l : Nat)  (x1 : Int32) (I : iq_I) (J : iq_J) (X : iq_X) {q : Int32} (h : zR_isRowOf x1 I = some q) : iq_Cc 2 90 [.ref 61, .int x1] (iq_sh l, I, J, X) (.inl (some (.int q)), (iq_sh l, I, J, X)) := by
  refine iq_Cc_of (L := [some (.ref 61), some (.int x1), none, none]) rfl rfl ?_
  unfold zR_isRowOf at h
  refine iq_G_go (k := 3) (σ' := (5, [some (.ref 61), some (.int x1), none, none], [.int x1, .ref 38], (iq_sh l, I, J, X))) (fun _ => rfl) ?_
  obtain ⟨q1, hq1, h⟩ := iq_bnd h
  refine iq_G_call (σ' := (8, [some (.ref 61), some (.int x1), none, none], [.int q1], (iq_sh l, I, J, X))) (fun _ => rfl) (zU_lengthOf_38_ok l x1 I J X hq1) rfl rfl ?_
  refine iq_G_go (k := 4) (σ' := (14, [some (.ref 61), some (.int x1), some (.int q1), none], [.ref 62, .int q1], (iq_sh l, I, J, X))) (fun _ => rfl) ?_
  obtain ⟨q2, hq2, h⟩ := iq_bnd h
  refine iq_G_call (σ' := (17, [some (.ref 61), some (.int x1), some (.int q1), none], [.int q2, .int q1], (iq_sh l, I, J, X))) (fun _ => rfl) (zT_size_ok l  I J X hq2) rfl rfl ?_
  rcases iq_ite h with ⟨hc_, h⟩ | ⟨hc_, h⟩
  · refine iq_G_pos (c := q1 = q2) (σ1 := (22, [some (.ref 61), some (.int x1), some (.int q1), none], [], (iq_sh l, I, J, X))) (fun _ => rfl) hc_ ?_
    refine iq_G_go (k := 2) (σ' := (24, [some (.ref 61), some (.int x1), some (.int q1), some (.int (0 : Int32))], [], (iq_sh l, I, J, X))) (fun _ => rfl) ?_
    obtain ⟨w5, hw5, h⟩ := iq_bnd h
    refine iq_G_fg (L := [some (.ref 61), some (.int x1), some (.int q1), some (.int (0 : Int32))]) (And.intro rfl (And.intro rfl (And.intro rfl (And.intro rfl trivial)))) ?_
    refine zR_isRowOf_l24_ok l x1 q1 I J X hw5 _ ⟨fun a6 ha => ?_, fun b7 hb => ?_⟩
    · subst ha
      replace h := ir_smL h
      show iq_Gg 1 90 (57, [none, none, none, none], [], (iq_sh l, I, J, X)) _
      refine iq_G_go (k := 1) (σ' := (58, [none, none, none, none], [.int (1 : Int32)], (iq_sh l, I, J, X))) (fun _ => rfl) ?_
      cases h
      exact iq_G_ret (fun _ => rfl)
    · subst hb
      replace h := ir_smR h
      cases h
      rfl
  · refine iq_G_neg (c := q1 = q2) (σ1 := (20, [some (.ref 61), some (.int x1), some (.int q1), none], [], (iq_sh l, I, J, X))) (fun _ => rfl) hc_ ?_
    refine iq_G_go (k := 1) (σ' := (21, [some (.ref 61), some (.int x1), some (.int q1), none], [.int (0 : Int32)], (iq_sh l, I, J, X))) (fun _ => rfl) ?_
    cases h
    exact iq_G_ret (fun _ => rfl)
set_option maxRecDepth 100000 in
theorem zR_isToldRow_l2_bok (l : Nat)   (I : iq_I) (J : iq_J) (X : iq_X) (x1 : Int32)  {q : (Int32) ⊕ ((Unit) ⊕ (Int32))} (h : zR_isToldRow_l2_b I x1 = some q) (r : iq_R × iq_M) (hc : ∀ v, q = .inl v → iq_Gg 2 89 (2, [some (.ref 61), some (.int v)], [], (iq_sh l, I, J, X)) r) (hx : ∀ w, q = .inr w → (∀ a, w = .inl a → iq_Gg 2 89 (29, [none, none], [], (iq_sh l, I, J, X)) r) ∧ (∀ b, w = .inr b → r = (.inl (some (.int b)), (iq_sh l, I, J, X)))) : iq_Gg 2 89 (2, [some (.ref 61), some (.int x1)], [], (iq_sh l, I, J, X)) r := by
  unfold zR_isToldRow_l2_b at h
  refine iq_G_go (k := 4) (σ' := (10, [some (.ref 61), some (.int x1)], [.int (I 38 2), .int x1], (iq_sh l, I, J, X))) (fun _ => rfl) ?_
  rcases iq_ite h with ⟨hc_, h⟩ | ⟨hc_, h⟩
  · refine iq_G_pos (c := (I 38 2) ≤ x1) (σ1 := (29, [some (.ref 61), some (.int x1)], [], (iq_sh l, I, J, X))) (fun _ => rfl) hc_ ?_
    cases h
    exact iq_G_fg (L := [none, none]) trivial ((hx (.inl ()) rfl).1 () rfl)
  · refine iq_G_neg (c := (I 38 2) ≤ x1) (σ1 := (13, [some (.ref 61), some (.int x1)], [], (iq_sh l, I, J, X))) (fun _ => rfl) hc_ ?_
    refine iq_G_go (k := 2) (σ' := (15, [some (.ref 61), some (.int x1)], [.int x1, .ref 61], (iq_sh l, I, J, X))) (fun _ => rfl) ?_
    obtain ⟨q1, hq1, h⟩ := iq_bnd h
    refine iq_G_call (σ' := (18, [some (.ref 61), some (.int x1)], [.int q1], (iq_sh l, I, J, X))) (fun _ => rfl) (zR_isRowOf_ok l x1 I J X hq1) rfl rfl ?_
    rcases iq_ite h with ⟨hc_, h⟩ | ⟨hc_, h⟩
    · refine iq_G_pos (c := q1 = 0) (σ1 := (23, [some (.ref 61), some (.int x1)], [], (iq_sh l, I, J, X))) (fun _ => rfl) hc_ ?_
      refine iq_G_go (k := 2) (σ' := (2, [some (.ref 61), some (.int (x1 + (1 : Int32)))], [], (iq_sh l, I, J, X))) (fun _ => rfl) ?_
      cases h
      exact iq_G_fg (L := [some (.ref 61), some (.int (x1 + (1 : Int32)))]) (And.intro rfl (And.intro rfl trivial)) (hc (x1 + (1 : Int32)) rfl)
    · refine iq_G_neg (c := q1 = 0) (σ1 := (21, [some (.ref 61), some (.int x1)], [], (iq_sh l, I, J, X))) (fun _ => rfl) hc_ ?_
      refine iq_G_go (k := 1) (σ' := (22, [some (.ref 61), some (.int x1)], [.int (1 : Int32)], (iq_sh l, I, J, X))) (fun _ => rfl) ?_
      cases h
      obtain rfl := (hx _ rfl).2 _ rfl
      exact iq_G_ret (fun _ => rfl)
set_option maxRecDepth 100000 in
theorem zR_isToldRow_l2_ok (l : Nat)   (I : iq_I) (J : iq_J) (X : iq_X) {n : Nat} {v : Int32} {w : (Unit) ⊕ (Int32)} (h : zR_isToldRow_l2 I n v = some w) (r : iq_R × iq_M) (hq : (∀ a, w = .inl a → iq_Gg 2 89 (29, [none, none], [], (iq_sh l, I, J, X)) r) ∧ (∀ b, w = .inr b → r = (.inl (some (.int b)), (iq_sh l, I, J, X)))) : iq_Gg 2 89 (2, [some (.ref 61), some (.int v)], [], (iq_sh l, I, J, X)) r :=
  iq_lp_ok (σ := fun v => (2, [some (.ref 61), some (.int v)], [], (iq_sh l, I, J, X))) (Q := fun w r => (∀ a, w = .inl a → iq_Gg 2 89 (29, [none, none], [], (iq_sh l, I, J, X)) r) ∧ (∀ b, w = .inr b → r = (.inl (some (.int b)), (iq_sh l, I, J, X)))) (fun v q hv r h1 h2 => zR_isToldRow_l2_bok l I J X v hv r h1 h2) h r hq
set_option maxRecDepth 100000 in
theorem zR_isToldRow_ok (l : Nat)   (I : iq_I) (J : iq_J) (X : iq_X) {q : Int32} (h : zR_isToldRow I = some q) : iq_Cc 3 89 [.ref 61] (iq_sh l, I, J, X) (.inl (some (.int q)), (iq_sh l, I, J, X)) := by
  refine iq_Cc_of (L := [some (.ref 61), none]) rfl rfl ?_
  unfold zR_isToldRow at h
  refine iq_G_go (k := 2) (σ' := (2, [some (.ref 61), some (.int (0 : Int32))], [], (iq_sh l, I, J, X))) (fun _ => rfl) ?_
  obtain ⟨w2, hw2, h⟩ := iq_bnd h
  refine iq_G_fg (L := [some (.ref 61), some (.int (0 : Int32))]) (And.intro rfl (And.intro rfl trivial)) ?_
  refine zR_isToldRow_l2_ok l I J X hw2 _ ⟨fun a3 ha => ?_, fun b4 hb => ?_⟩
  · subst ha
    replace h := ir_smL h
    show iq_Gg 2 89 (29, [none, none], [], (iq_sh l, I, J, X)) _
    refine iq_G_go (k := 1) (σ' := (30, [none, none], [.int (0 : Int32)], (iq_sh l, I, J, X))) (fun _ => rfl) ?_
    cases h
    exact iq_G_ret (fun _ => rfl)
  · subst hb
    replace h := ir_smR h
    cases h
    rfl
set_option maxRecDepth 100000 in
theorem zU_putLetter_ok (l : Nat)  (x1 : Int32) (x2 : Int32) (x3 : Int32) (I : iq_I) (J : iq_J) (X : iq_X) {q : iq_I} (h : zU_putLetter x1 x2 x3 I = some q) : iq_Cc 1 40 [.ref 38, .int x1, .int x2, .int x3] (iq_sh l, I, J, X) (.inl none, (iq_sh l, q, J, X)) := by
  refine iq_Cc_of (L := [some (.ref 38), some (.int x1), some (.int x2), some (.int x3)]) rfl rfl ?_
  unfold zU_putLetter at h
  refine iq_G_go (k := 1) (σ' := (1, [some (.ref 38), some (.int x1), some (.int x2), some (.int x3)], [.int x1], (iq_sh l, I, J, X))) (fun _ => rfl) ?_
  rcases iq_ite h with ⟨hc_, h⟩ | ⟨hc_, h⟩
  · refine iq_G_pos (c := x1 < 0) (σ1 := (32, [some (.ref 38), some (.int x1), some (.int x2), some (.int x3)], [], (iq_sh l, I, J, X))) (fun _ => rfl) hc_ ?_
    cases h
    exact iq_G_ret (fun _ => rfl)
  · refine iq_G_neg (c := x1 < 0) (σ1 := (4, [some (.ref 38), some (.int x1), some (.int x2), some (.int x3)], [], (iq_sh l, I, J, X))) (fun _ => rfl) hc_ ?_
    refine iq_G_go (k := 2) (σ' := (7, [some (.ref 38), some (.int x1), some (.int x2), some (.int x3)], [.int (14 : Int32), .int x1], (iq_sh l, I, J, X))) (fun _ => rfl) ?_
    rcases iq_ite h with ⟨hc_, h⟩ | ⟨hc_, h⟩
    · refine iq_G_pos (c := (14 : Int32) ≤ x1) (σ1 := (32, [some (.ref 38), some (.int x1), some (.int x2), some (.int x3)], [], (iq_sh l, I, J, X))) (fun _ => rfl) hc_ ?_
      cases h
      exact iq_G_ret (fun _ => rfl)
    · refine iq_G_neg (c := (14 : Int32) ≤ x1) (σ1 := (10, [some (.ref 38), some (.int x1), some (.int x2), some (.int x3)], [], (iq_sh l, I, J, X))) (fun _ => rfl) hc_ ?_
      refine iq_G_go (k := 1) (σ' := (11, [some (.ref 38), some (.int x1), some (.int x2), some (.int x3)], [.int x2], (iq_sh l, I, J, X))) (fun _ => rfl) ?_
      rcases iq_ite h with ⟨hc_, h⟩ | ⟨hc_, h⟩
      · refine iq_G_pos (c := x2 < 0) (σ1 := (32, [some (.ref 38), some (.int x1), some (.int x2), some (.int x3)], [], (iq_sh l, I, J, X))) (fun _ => rfl) hc_ ?_
        cases h
        exact iq_G_ret (fun _ => rfl)
      · refine iq_G_neg (c := x2 < 0) (σ1 := (14, [some (.ref 38), some (.int x1), some (.int x2), some (.int x3)], [], (iq_sh l, I, J, X))) (fun _ => rfl) hc_ ?_
        refine iq_G_go (k := 2) (σ' := (17, [some (.ref 38), some (.int x1), some (.int x2), some (.int x3)], [.int (9 : Int32), .int x2], (iq_sh l, I, J, X))) (fun _ => rfl) ?_
        rcases iq_ite h with ⟨hc_, h⟩ | ⟨hc_, h⟩
        · refine iq_G_pos (c := (9 : Int32) ≤ x2) (σ1 := (32, [some (.ref 38), some (.int x1), some (.int x2), some (.int x3)], [], (iq_sh l, I, J, X))) (fun _ => rfl) hc_ ?_
          cases h
          exact iq_G_ret (fun _ => rfl)
        · refine iq_G_neg (c := (9 : Int32) ≤ x2) (σ1 := (20, [some (.ref 38), some (.int x1), some (.int x2), some (.int x3)], [], (iq_sh l, I, J, X))) (fun _ => rfl) hc_ ?_
          refine iq_G_go (k := 8) (σ' := (31, [some (.ref 38), some (.int x1), some (.int x2), some (.int x3)], [.int x3, .int ((x1 * (9 : Int32)) + x2), .ref 47], (iq_sh l, I, J, X))) (fun _ => rfl) ?_
          obtain ⟨hc_, h⟩ := iq_itn h
          refine iq_G_pos (c := iq_in ((x1 * (9 : Int32)) + x2) 126) (σ1 := (32, [some (.ref 38), some (.int x1), some (.int x2), some (.int x3)], [], (iq_sh l, (iq_upI I 47 (Int32.toNatClampNeg ((x1 * (9 : Int32)) + x2)) x3), J, X))) (fun _ => rfl) hc_ ?_
          obtain ⟨I1, eI1, h⟩ := ir_letG h
          rw [← eI1]
          clear eI1
          cases h
          exact iq_G_ret (fun _ => rfl)

