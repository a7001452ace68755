/-! ===== the abstract machine does the same (printed by wip/whole/emitall.py, split.py) ===== -/
set_option maxRecDepth 100000 in
theorem zW_findShared_101_ok (l : Nat)  (x2 : Int32) (x3 : Int32) (x4 : Int32) (x5 : Int32) (x6 : Int32) (x7 : Int32) (x8 : Int32) (s1 : Int32) (s2 : Int32) (I : iq_I) (J : iq_J) (X : iq_X)  {q : (Int32 × iq_I) ⊕ (iq_I)} (h : zW_findShared_101 x2 x3 x4 x5 x6 x7 x8 s1 s2 I = some q) (r : iq_R × iq_M) (hc : ∀ v, q = .inl v → iq_Gg 1 126 (60, [some (.ref 72), some (.ref 16), some (.int x2), some (.int x3), some (.int x4), some (.int x5), some (.int x6), some (.int x7), some (.int v.1)], [], (iq_sh l, v.2, J, X)) r) (hx : ∀ w, q = .inr w → iq_Gg 1 126 (149, [some (.ref 72), some (.ref 16), some (.int x2), some (.int x3), some (.int x4), some (.int x5), some (.int x6), none, none], [], (iq_sh l, w, J, X)) r) : iq_Gg 1 126 (101, [some (.ref 72), some (.ref 16), some (.int x2), some (.int x3), some (.int x4), some (.int x5), some (.int x6), some (.int x7), some (.int x8)], [.int s2, .int s1, .ref 73], (iq_sh l, I, J, X)) r := by
  unfold zW_findShared_101 at h
  obtain ⟨hc_, h⟩ := iq_itn h
  refine iq_G_pos (c := iq_in s1 41) (σ1 := (102, [some (.ref 72), some (.ref 16), some (.int x2), some (.int x3), some (.int x4), some (.int x5), some (.int x6), some (.int x7), some (.int x8)], [], (iq_sh l, (iq_upI I 73 (Int32.toNatClampNeg s1) s2), J, X))) (fun _ => rfl) hc_ ?_
  obtain ⟨I8, eI8, h⟩ := ir_letG h
  rw [← eI8]
  clear eI8
  refine iq_G_go (k := 3) (σ' := (108, [some (.ref 72), some (.ref 16), some (.int x2), some (.int x3), some (.int x4), some (.int x5), some (.int x6), some (.int x7), some (.int x8)], [.int x8, .ref 73], (iq_sh l, I8, J, X))) (fun _ => rfl) ?_
  obtain ⟨hc_, h⟩ := iq_itn h
  refine iq_G_pos (c := iq_in x8 41) (σ1 := (109, [some (.ref 72), some (.ref 16), some (.int x2), some (.int x3), some (.int x4), some (.int x5), some (.int x6), some (.int x7), some (.int x8)], [.int (I8 73 (Int32.toNatClampNeg x8))], (iq_sh l, I8, J, X))) (fun _ => rfl) hc_ ?_
  refine iq_G_go (k := 2) (σ' := (113, [some (.ref 72), some (.ref 16), some (.int x2), some (.int x3), some (.int x4), some (.int x5), some (.int x6), some (.int x7), some (.int x8)], [.int (I8 72 4), .int (I8 73 (Int32.toNatClampNeg x8))], (iq_sh l, I8, J, X))) (fun _ => rfl) ?_
  rcases iq_ite h with ⟨hc_, h⟩ | ⟨hc_, h⟩
  · refine iq_G_pos (c := (I8 73 (Int32.toNatClampNeg x8)) ≤ (I8 72 4)) (σ1 := (143, [some (.ref 72), some (.ref 16), some (.int x2), some (.int x3), some (.int x4), some (.int x5), some (.int x6), some (.int x7), some (.int x8)], [], (iq_sh l, I8, J, X))) (fun _ => rfl) hc_ ?_
    refine iq_G_go (k := 2) (σ' := (60, [some (.ref 72), some (.ref 16), some (.int x2), some (.int x3), some (.int x4), some (.int x5), some (.int x6), some (.int x7), some (.int (x8 + (-1 : Int32)))], [], (iq_sh l, I8, J, X))) (fun _ => rfl) ?_
    cases h
    exact iq_G_fg (L := [some (.ref 72), some (.ref 16), some (.int x2), some (.int x3), some (.int x4), some (.int x5), some (.int x6), some (.int x7), some (.int (x8 + (-1 : Int32)))]) (And.intro rfl (And.intro rfl (And.intro rfl (And.intro rfl (And.intro rfl (And.intro rfl (And.intro rfl (And.intro rfl (And.intro rfl trivial))))))))) (hc ((x8 + (-1 : Int32)), I8) rfl)
  · refine iq_G_neg (c := (I8 73 (Int32.toNatClampNeg x8)) ≤ (I8 72 4)) (σ1 := (116, [some (.ref 72), some (.ref 16), some (.int x2), some (.int x3), some (.int x4), some (.int x5), some (.int x6), some (.int x7), some (.int x8)], [], (iq_sh l, I8, J, X))) (fun _ => rfl) hc_ ?_
    refine iq_G_go (k := 4) (σ' := (123, [some (.ref 72), some (.ref 16), some (.int x2), some (.int x3), some (.int x4), some (.int x5), some (.int x6), some (.int x7), some (.int x8)], [.int x8, .ref 73, .ref 72], (iq_sh l, I8, J, X))) (fun _ => rfl) ?_
    obtain ⟨hc_, h⟩ := iq_itn h
    refine iq_G_pos (c := iq_in x8 41) (σ1 := (124, [some (.ref 72), some (.ref 16), some (.int x2), some (.int x3), some (.int x4), some (.int x5), some (.int x6), some (.int x7), some (.int x8)], [.int (I8 73 (Int32.toNatClampNeg x8)), .ref 72], (iq_sh l, I8, J, X))) (fun _ => rfl) hc_ ?_
    refine iq_G_go (k := 1) (σ' := (127, [some (.ref 72), some (.ref 16), some (.int x2), some (.int x3), some (.int x4), some (.int x5), some (.int x6), some (.int x7), some (.int x8)], [], (iq_sh l, (iq_upI I8 72 4 (I8 73 (Int32.toNatClampNeg x8))), J, X))) (fun _ => rfl) ?_
    obtain ⟨I9, eI9, h⟩ := ir_letG h
    rw [← eI9]
    clear eI9
    refine iq_G_go (k := 7) (σ' := (138, [some (.ref 72), some (.ref 16), some (.int x2), some (.int x3), some (.int x4), some (.int x5), some (.int x6), some (.int x7), some (.int x8)], [.int x8, .ref 73, .int (x6 + (1 : Int32)), .ref 72], (iq_sh l, I9, J, X))) (fun _ => rfl) ?_
    obtain ⟨hc_, h⟩ := iq_itn h
    refine iq_G_pos (c := iq_in x8 41) (σ1 := (139, [some (.ref 72), some (.ref 16), some (.int x2), some (.int x3), some (.int x4), some (.int x5), some (.int x6), some (.int x7), some (.int x8)], [.int (I9 73 (Int32.toNatClampNeg x8)), .int (x6 + (1 : Int32)), .ref 72], (iq_sh l, I9, J, X))) (fun _ => rfl) hc_ ?_
    refine iq_G_go (k := 1) (σ' := (140, [some (.ref 72), some (.ref 16), some (.int x2), some (.int x3), some (.int x4), some (.int x5), some (.int x6), some (.int x7), some (.int x8)], [.int ((x6 + (1 : Int32)) - (I9 73 (Int32.toNatClampNeg x8))), .ref 72], (iq_sh l, I9, J, X))) (fun _ => rfl) ?_
    refine iq_G_go (k := 1) (σ' := (143, [some (.ref 72), some (.ref 16), some (.int x2), some (.int x3), some (.int x4), some (.int x5), some (.int x6), some (.int x7), some (.int x8)], [], (iq_sh l, (iq_upI I9 72 5 ((x6 + (1 : Int32)) - (I9 73 (Int32.toNatClampNeg x8)))), J, X))) (fun _ => rfl) ?_
    obtain ⟨I10, eI10, h⟩ := ir_letG h
    rw [← eI10]
    clear eI10
    refine iq_G_go (k := 2) (σ' := (60, [some (.ref 72), some (.ref 16), some (.int x2), some (.int x3), some (.int x4), some (.int x5), some (.int x6), some (.int x7), some (.int (x8 + (-1 : Int32)))], [], (iq_sh l, I10, J, X))) (fun _ => rfl) ?_
    cases h
    exact iq_G_fg (L := [some (.ref 72), some (.ref 16), some (.int x2), some (.int x3), some (.int x4), some (.int x5), some (.int x6), some (.int x7), some (.int (x8 + (-1 : Int32)))]) (And.intro rfl (And.intro rfl (And.intro rfl (And.intro rfl (And.intro rfl (And.intro rfl (And.intro rfl (And.intro rfl (And.intro rfl trivial))))))))) (hc ((x8 + (-1 : Int32)), I10) rfl)
set_option maxRecDepth 100000 in
theorem zW_findShared_l60_bok (l : Nat)  (x2 : Int32) (x3 : Int32) (x4 : Int32) (x5 : Int32) (x6 : Int32) (x7 : Int32) (J : iq_J) (X : iq_X) (x8 : Int32) (I : iq_I) {q : (Int32 × iq_I) ⊕ (iq_I)} (h : zW_findShared_l60_b x2 x3 x4 x5 x6 x7 x8 I = some q) (r : iq_R × iq_M) (hc : ∀ v, q = .inl v → iq_Gg 1 126 (60, [some (.ref 72), some (.ref 16), some (.int x2), some (.int x3), some (.int x4), some (.int x5), some (.int x6), some (.int x7), some (.int v.1)], [], (iq_sh l, v.2, J, X)) r) (hx : ∀ w, q = .inr w → iq_Gg 1 126 (149, [some (.ref 72), some (.ref 16), some (.int x2), some (.int x3), some (.int x4), some (.int x5), some (.int x6), none, none], [], (iq_sh l, w, J, X)) r) : iq_Gg 1 126 (60, [some (.ref 72), some (.ref 16), some (.int x2), some (.int x3), some (.int x4), some (.int x5), some (.int x6), some (.int x7), some (.int x8)], [], (iq_sh l, I, J, X)) r := by
  unfold zW_findShared_l60_b at h
  refine iq_G_go (k := 2) (σ' := (63, [some (.ref 72), some (.ref 16), some (.int x2), some (.int x3), some (.int x4), some (.int x5), some (.int x6), some (.int x7), some (.int x8)], [.int (1 : Int32), .int x8], (iq_sh l, I, J, X))) (fun _ => rfl) ?_
  rcases iq_ite h with ⟨hc_, h⟩ | ⟨hc_, h⟩
  · refine iq_G_pos (c := x8 < (1 : Int32)) (σ1 := (149, [some (.ref 72), some (.ref 16), some (.int x2), some (.int x3), some (.int x4), some (.int x5), some (.int x6), some (.int x7), some (.int x8)], [], (iq_sh l, I, J, X))) (fun _ => rfl) hc_ ?_
    cases h
    exact iq_G_fg (L := [some (.ref 72), some (.ref 16), some (.int x2), some (.int x3), some (.int x4), some (.int x5), some (.int x6), none, none]) (And.intro rfl (And.intro rfl (And.intro rfl (And.intro rfl (And.intro rfl (And.intro rfl (And.intro rfl trivial))))))) (hx I rfl)
  · refine iq_G_neg (c := x8 < (1 : Int32)) (σ1 := (66, [some (.ref 72), some (.ref 16), some (.int x2), some (.int x3), some (.int x4), some (.int x5), some (.int x6), some (.int x7), some (.int x8)], [], (iq_sh l, I, J, X))) (fun _ => rfl) hc_ ?_
    refine iq_G_go (k := 9) (σ' := (80, [some (.ref 72), some (.ref 16), some (.int x2), some (.int x3), some (.int x4), some (.int x5), some (.int x6), some (.int x7), some (.int x8)], [.int (x8 - (1 : Int32)), .int x3, .ref 16, .int x7, .int x8, .ref 73], (iq_sh l, I, J, X))) (fun _ => rfl) ?_
    obtain ⟨q7, hq7, h⟩ := iq_bnd h
    refine iq_G_call (σ' := (83, [some (.ref 72), some (.ref 16), some (.int x2), some (.int x3), some (.int x4), some (.int x5), some (.int x6), some (.int x7), some (.int x8)], [.int q7, .int x7, .int x8, .ref 73], (iq_sh l, I, J, X))) (fun _ => rfl) (zG_wordAt_16_ok l x3 (x8 - (1 : Int32)) I J X hq7) rfl rfl ?_
    rcases iq_ite h with ⟨hc_, h⟩ | ⟨hc_, h⟩
    · refine iq_G_pos (c := ¬ x7 = q7) (σ1 := (100, [some (.ref 72), some (.ref 16), some (.int x2), some (.int x3), some (.int x4), some (.int x5), some (.int x6), some (.int x7), some (.int x8)], [.int x8, .ref 73], (iq_sh l, I, J, X))) (fun _ => rfl) hc_ ?_
      refine iq_G_go (k := 1) (σ' := (101, [some (.ref 72), some (.ref 16), some (.int x2), some (.int x3), some (.int x4), some (.int x5), some (.int x6), some (.int x7), some (.int x8)], [.int (0 : Int32), .int x8, .ref 73], (iq_sh l, I, J, X))) (fun _ => rfl) ?_
      exact iq_G_fg (L := [some (.ref 72), some (.ref 16), some (.int x2), some (.int x3), some (.int x4), some (.int x5), some (.int x6), some (.int x7), some (.int x8)]) (And.intro rfl (And.intro rfl (And.intro rfl (And.intro rfl (And.intro rfl (And.intro rfl (And.intro rfl (And.intro rfl (And.intro rfl trivial))))))))) (zW_findShared_101_ok l x2 x3 x4 x5 x6 x7 x8 x8 (0 : Int32) I J X  h r hc hx)
    · refine iq_G_neg (c := ¬ x7 = q7) (σ1 := (86, [some (.ref 72), some (.ref 16), some (.int x2), some (.int x3), some (.int x4), some (.int x5), some (.int x6), some (.int x7), some (.int x8)], [.int x8, .ref 73], (iq_sh l, I, J, X))) (fun _ => rfl) hc_ ?_
      refine iq_G_go (k := 5) (σ' := (94, [some (.ref 72), some (.ref 16), some (.int x2), some (.int x3), some (.int x4), some (.int x5), some (.int x6), some (.int x7), some (.int x8)], [.int (x8 - (1 : Int32)), .ref 73, .int x8, .ref 73], (iq_sh l, I, J, X))) (fun _ => rfl) ?_
      obtain ⟨hc_, h⟩ := iq_itn h
      have st_ : ∀ (z_0 : Int32) (r_ : iq_R × iq_M), iq_in z_0 41 → iq_Gg 1 126 (95, [some (.ref 72), some (.ref 16), some (.int x2), some (.int x3), some (.int x4), some (.int x5), some (.int x6), some (.int x7), some (.int x8)], [.int (I 73 (Int32.toNatClampNeg z_0)), .int x8, .ref 73], (iq_sh l, I, J, X)) r_ → iq_Gg 1 126 (94, [some (.ref 72), some (.ref 16), some (.int x2), some (.int x3), some (.int x4), some (.int x5), some (.int x6), some (.int x7), some (.int x8)], [.int z_0, .ref 73, .int x8, .ref 73], (iq_sh l, I, J, X)) r_ := fun z_0 r_ hc_ hg_ => iq_G_pos (c := iq_in z_0 41) (σ1 := (95, [some (.ref 72), some (.ref 16), some (.int x2), some (.int x3), some (.int x4), some (.int x5), some (.int x6), some (.int x7), some (.int x8)], [.int (I 73 (Int32.toNatClampNeg z_0)), .int x8, .ref 73], (iq_sh l, I, J, X))) (fun _ => rfl) hc_ hg_
      refine st_ (x8 - (1 : Int32)) _ hc_ ?_
      clear st_
      refine iq_G_go (k := 3) (σ' := (101, [some (.ref 72), some (.ref 16), some (.int x2), some (.int x3), some (.int x4), some (.int x5), some (.int x6), some (.int x7), some (.int x8)], [.int ((I 73 (Int32.toNatClampNeg (x8 - (1 : Int32)))) + (1 : Int32)), .int x8, .ref 73], (iq_sh l, I, J, X))) (fun _ => rfl) ?_
      exact iq_G_fg (L := [some (.ref 72), some (.ref 16), some (.int x2), some (.int x3), some (.int x4), some (.int x5), some (.int x6), some (.int x7), some (.int x8)]) (And.intro rfl (And.intro rfl (And.intro rfl (And.intro rfl (And.intro rfl (And.intro rfl (And.intro rfl (And.intro rfl (And.intro rfl trivial))))))))) (zW_findShared_101_ok l x2 x3 x4 x5 x6 x7 x8 x8 ((I 73 (Int32.toNatClampNeg (x8 - (1 : Int32)))) + (1 : Int32)) I J X  h r hc hx)
set_option maxRecDepth 100000 in
theorem zW_findShared_l60_ok (l : Nat)  (x2 : Int32) (x3 : Int32) (x4 : Int32) (x5 : Int32) (x6 : Int32) (x7 : Int32) (J : iq_J) (X : iq_X) {n : Nat} {v : Int32 × iq_I} {w : iq_I} (h : zW_findShared_l60 x2 x3 x4 x5 x6 x7 n v = some w) (r : iq_R × iq_M) (hq : iq_Gg 1 126 (149, [some (.ref 72), some (.ref 16), some (.int x2), some (.int x3), some (.int x4), some (.int x5), some (.int x6), none, none], [], (iq_sh l, w, J, X)) r) : iq_Gg 1 126 (60, [some (.ref 72), some (.ref 16), some (.int x2), some (.int x3), some (.int x4), some (.int x5), some (.int x6), some (.int x7), some (.int v.1)], [], (iq_sh l, v.2, J, X)) r :=
  iq_lp_ok (σ := fun v => (60, [some (.ref 72), some (.ref 16), some (.int x2), some (.int x3), some (.int x4), some (.int x5), some (.int x6), some (.int x7), some (.int v.1)], [], (iq_sh l, v.2, J, X))) (Q := fun w r => iq_Gg 1 126 (149, [some (.ref 72), some (.ref 16), some (.int x2), some (.int x3), some (.int x4), some (.int x5), some (.int x6), none, none], [], (iq_sh l, w, J, X)) r) (fun v q hv r h1 h2 => zW_findShared_l60_bok l x2 x3 x4 x5 x6 x7 J X v.1 v.2 hv r h1 h2) h r hq
set_option maxRecDepth 100000 in
theorem zW_findShared_l40_bok (l : Nat)  (x2 : Int32) (x3 : Int32) (x4 : Int32) (x5 : Int32) (J : iq_J) (X : iq_X) (x6 : Int32) (I : iq_I) {q : (Int32 × iq_I) ⊕ (iq_I)} (h : zW_findShared_l40_b x2 x3 x4 x5 x6 I = some q) (r : iq_R × iq_M) (hc : ∀ v, q = .inl v → iq_Gg 1 126 (40, [some (.ref 72), some (.ref 16), some (.int x2), some (.int x3), some (.int x4), some (.int x5), some (.int v.1), none, none], [], (iq_sh l, v.2, J, X)) r) (hx : ∀ w, q = .inr w → iq_Gg 1 126 (155, [none, none, none, none, none, none, none, none, none], [], (iq_sh l, w, J, X)) r) : iq_Gg 1 126 (40, [some (.ref 72), some (.ref 16), some (.int x2), some (.int x3), some (.int x4), some (.int x5), some (.int x6), none, none], [], (iq_sh l, I, J, X)) r := by
  unfold zW_findShared_l40_b at h
  refine iq_G_go (k := 2) (σ' := (44, [some (.ref 72), some (.ref 16), some (.int x2), some (.int x3), some (.int x4), some (.int x5), some (.int x6), none, none], [.int x4, .int x6], (iq_sh l, I, J, X))) (fun _ => rfl) ?_
  rcases iq_ite h with ⟨hc_, h⟩ | ⟨hc_, h⟩
  · refine iq_G_pos (c := x4 ≤ x6) (σ1 := (155, [some (.ref 72), some (.ref 16), some (.int x2), some (.int x3), some (.int x4), some (.int x5), some (.int x6), none, none], [], (iq_sh l, I, J, X))) (fun _ => rfl) hc_ ?_
    cases h
    exact iq_G_fg (L := [none, none, none, none, none, none, none, none, none]) trivial (hx I rfl)
  · refine iq_G_neg (c := x4 ≤ x6) (σ1 := (47, [some (.ref 72), some (.ref 16), some (.int x2), some (.int x3), some (.int x4), some (.int x5), some (.int x6), none, none], [], (iq_sh l, I, J, X))) (fun _ => rfl) hc_ ?_
    refine iq_G_go (k := 3) (σ' := (51, [some (.ref 72), some (.ref 16), some (.int x2), some (.int x3), some (.int x4), some (.int x5), some (.int x6), none, none], [.int x6, .int x2, .ref 16], (iq_sh l, I, J, X))) (fun _ => rfl) ?_
    obtain ⟨q6, hq6, h⟩ := iq_bnd h
    refine iq_G_call (σ' := (54, [some (.ref 72), some (.ref 16), some (.int x2), some (.int x3), some (.int x4), some (.int x5), some (.int x6), none, none], [.int q6], (iq_sh l, I, J, X))) (fun _ => rfl) (zG_wordAt_16_ok l x2 x6 I J X hq6) rfl rfl ?_
    refine iq_G_go (k := 3) (σ' := (60, [some (.ref 72), some (.ref 16), some (.int x2), some (.int x3), some (.int x4), some (.int x5), some (.int x6), some (.int q6), some (.int x5)], [], (iq_sh l, I, J, X))) (fun _ => rfl) ?_
    obtain ⟨w11, hw11, h⟩ := iq_bnd h
    refine iq_G_fg (L := [some (.ref 72), some (.ref 16), some (.int x2), some (.int x3), some (.int x4), some (.int x5), some (.int x6), some (.int q6), some (.int x5)]) (And.intro rfl (And.intro rfl (And.intro rfl (And.intro rfl (And.intro rfl (And.intro rfl (And.intro rfl (And.intro rfl (And.intro rfl trivial))))))))) ?_
    refine zW_findShared_l60_ok l x2 x3 x4 x5 x6 q6 J X hw11 _ ?_
    show iq_Gg 1 126 (149, [some (.ref 72), some (.ref 16), some (.int x2), some (.int x3), some (.int x4), some (.int x5), some (.int x6), none, none], [], (iq_sh l, w11, J, X)) _
    refine iq_G_go (k := 2) (σ' := (40, [some (.ref 72), some (.ref 16), some (.int x2), some (.int x3), some (.int x4), some (.int x5), some (.int (x6 + (1 : Int32))), none, none], [], (iq_sh l, w11, J, X))) (fun _ => rfl) ?_
    cases h
    exact iq_G_fg (L := [some (.ref 72), some (.ref 16), some (.int x2), some (.int x3), some (.int x4), some (.int x5), some (.int (x6 + (1 : Int32))), none, none]) (And.intro rfl (And.intro rfl (And.intro rfl (And.intro rfl (And.intro rfl (And.intro rfl (And.intro rfl trivial))))))) (hc ((x6 + (1 : Int32)), w11) rfl)
set_option maxRecDepth 100000 in
theorem zW_findShared_l40_ok (l : Nat)  (x2 : Int32) (x3 : Int32) (x4 : Int32) (x5 : Int32) (J : iq_J) (X : iq_X) {n : Nat} {v : Int32 × iq_I} {w : iq_I} (h : zW_findShared_l40 x2 x3 x4 x5 n v = some w) (r : iq_R × iq_M) (hq : iq_Gg 1 126 (155, [none, none, none, none, none, none, none, none, none], [], (iq_sh l, w, J, X)) r) : iq_Gg 1 126 (40, [some (.ref 72), some (.ref 16), some (.int x2), some (.int x3), some (.int x4), some (.int x5), some (.int v.1), none, none], [], (iq_sh l, v.2, J, X)) r :=
  iq_lp_ok (σ := fun v => (40, [some (.ref 72), some (.ref 16), some (.int x2), some (.int x3), some (.int x4), some (.int x5), some (.int v.1), none, none], [], (iq_sh l, v.2, J, X))) (Q := fun w r => iq_Gg 1 126 (155, [none, none, none, none, none, none, none, none, none], [], (iq_sh l, w, J, X)) r) (fun v q hv r h1 h2 => zW_findShared_l40_bok l x2 x3 x4 x5 J X v.1 v.2 hv r h1 h2) h r hq
set_option maxRecDepth 100000 in
theorem zW_findShared_ok (l : Nat)  (x2 : Int32) (x3 : Int32) (I : iq_I) (J : iq_J) (X : iq_X) {q : iq_I} (h : zW_findShared x2 x3 I = some q) : iq_Cc 2 126 [.ref 72, .ref 16, .int x2, .int x3] (iq_sh l, I, J, X) (.inl none, (iq_sh l, q, J, X)) := by
  refine iq_Cc_of (L := [some (.ref 72), some (.ref 16), some (.int x2), some (.int x3), none, none, none, none, none]) rfl rfl ?_
  unfold zW_findShared at h
  refine iq_G_go (k := 2) (σ' := (2, [some (.ref 72), some (.ref 16), some (.int x2), some (.int x3), none, none, none, none, none], [.int x2, .ref 16], (iq_sh l, I, J, X))) (fun _ => rfl) ?_
  obtain ⟨q1, hq1, h⟩ := iq_bnd h
  refine iq_G_call (σ' := (5, [some (.ref 72), some (.ref 16), some (.int x2), some (.int x3), none, none, none, none, none], [.int q1], (iq_sh l, I, J, X))) (fun _ => rfl) (zG_lengthOf_16_ok l x2 I J X hq1) rfl rfl ?_
  refine iq_G_go (k := 3) (σ' := (9, [some (.ref 72), some (.ref 16), some (.int x2), some (.int x3), some (.int q1), none, none, none, none], [.int x3, .ref 16], (iq_sh l, I, J, X))) (fun _ => rfl) ?_
  obtain ⟨q2, hq2, h⟩ := iq_bnd h
  refine iq_G_call (σ' := (12, [some (.ref 72), some (.ref 16), some (.int x2), some (.int x3), some (.int q1), none, none, none, none], [.int q2], (iq_sh l, I, J, X))) (fun _ => rfl) (zG_lengthOf_16_ok l x3 I J X hq2) rfl rfl ?_
  refine iq_G_go (k := 5) (σ' := (21, [some (.ref 72), some (.ref 16), some (.int x2), some (.int x3), some (.int q1), some (.int (ir_min q2 (40 : Int32))), none, none, none], [.int (0 : Int32), .ref 72], (iq_sh l, I, J, X))) (fun _ => rfl) ?_
  refine iq_G_go (k := 1) (σ' := (24, [some (.ref 72), some (.ref 16), some (.int x2), some (.int x3), some (.int q1), some (.int (ir_min q2 (40 : Int32))), none, none, none], [], (iq_sh l, (iq_upI I 72 4 (0 : Int32)), J, X))) (fun _ => rfl) ?_
  obtain ⟨I3, eI3, h⟩ := ir_letG h
  rw [← eI3]
  clear eI3
  refine iq_G_go (k := 2) (σ' := (26, [some (.ref 72), some (.ref 16), some (.int x2), some (.int x3), some (.int q1), some (.int (ir_min q2 (40 : Int32))), none, none, none], [.int (-1 : Int32), .ref 72], (iq_sh l, I3, J, X))) (fun _ => rfl) ?_
  refine iq_G_go (k := 1) (σ' := (29, [some (.ref 72), some (.ref 16), some (.int x2), some (.int x3), some (.int q1), some (.int (ir_min q2 (40 : Int32))), none, none, none], [], (iq_sh l, (iq_upI I3 72 5 (-1 : Int32)), J, X))) (fun _ => rfl) ?_
  obtain ⟨I4, eI4, h⟩ := ir_letG h
  rw [← eI4]
  clear eI4
  refine iq_G_go (k := 3) (σ' := (34, [some (.ref 72), some (.ref 16), some (.int x2), some (.int x3), some (.int q1), some (.int (ir_min q2 (40 : Int32))), none, none, none], [.int (0 : Int32), .ref 73], (iq_sh l, I4, J, X))) (fun _ => rfl) ?_
  obtain ⟨q5, hq5, h⟩ := iq_bnd h
  refine iq_G_call (σ' := (37, [some (.ref 72), some (.ref 16), some (.int x2), some (.int x3), some (.int q1), some (.int (ir_min q2 (40 : Int32))), none, none, none], [], (iq_sh l, q5, J, X))) (fun _ => rfl) (zS_J7_fill_53178_73_ok l (0 : Int32) I4 J X hq5) rfl rfl ?_
  refine iq_G_go (k := 2) (σ' := (40, [some (.ref 72), some (.ref 16), some (.int x2), some (.int x3), some (.int q1), some (.int (ir_min q2 (40 : Int32))), some (.int (0 : Int32)), none, none], [], (iq_sh l, q5, J, X))) (fun _ => rfl) ?_
  obtain ⟨w12, hw12, h⟩ := iq_bnd h
  refine iq_G_fg (L := [some (.ref 72), some (.ref 16), some (.int x2), some (.int x3), some (.int q1), some (.int (ir_min q2 (40 : Int32))), some (.int (0 : Int32)), none, none]) (And.intro rfl (And.intro rfl (And.intro rfl (And.intro rfl (And.intro rfl (And.intro rfl (And.intro rfl trivial))))))) ?_
  refine zW_findShared_l40_ok l x2 x3 q1 (ir_min q2 (40 : Int32)) J X hw12 _ ?_
  show iq_Gg 1 126 (155, [none, none, none, none, none, none, none, none, none], [], (iq_sh l, w12, J, X)) _
  cases h
  exact iq_G_ret (fun _ => rfl)
set_option maxRecDepth 100000 in
theorem zW_longestShared_ok (l : Nat)  (x2 : Int32) (x3 : Int32) (I : iq_I) (J : iq_J) (X : iq_X) {q : Int32 × iq_I} (h : zW_longestShared x2 x3 I = some q) : iq_Cc 3 124 [.ref 72, .ref 16, .int x2, .int x3] (iq_sh l, I, J, X) (.inl (some (.int q.1)), (iq_sh l, q.2, J, X)) := by
  refine iq_Cc_of (L := [some (.ref 72), some (.ref 16), some (.int x2), some (.int x3)]) rfl rfl ?_
  unfold zW_longestShared at h
  refine iq_G_go (k := 4) (σ' := (4, [some (.ref 72), some (.ref 16), some (.int x2), some (.int x3)], [.int x3, .int x2, .ref 16, .ref 72], (iq_sh l, I, J, X))) (fun _ => rfl) ?_
  obtain ⟨q1, hq1, h⟩ := iq_bnd h
  refine iq_G_call (σ' := (7, [some (.ref 72), some (.ref 16), some (.int x2), some (.int x3)], [], (iq_sh l, q1, J, X))) (fun _ => rfl) (zW_findShared_ok l x2 x3 I J X hq1) rfl rfl ?_
  refine iq_G_go (k := 2) (σ' := (11, [some (.ref 72), some (.ref 16), some (.int x2), some (.int x3)], [.int (q1 72 4)], (iq_sh l, q1, J, X))) (fun _ => rfl) ?_
  cases h
  exact iq_G_ret (fun _ => rfl)
set_option maxRecDepth 100000 in
theorem zW_whereShared_ok (l : Nat)  (x2 : Int32) (x3 : Int32) (I : iq_I) (J : iq_J) (X : iq_X) {q : Int32 × iq_I} (h : zW_whereShared x2 x3 I = some q) : iq_Cc 3 125 [.ref 72, .ref 16, .int x2, .int x3] (iq_sh l, I, J, X) (.inl (some (.int q.1)), (iq_sh l, q.2, J, X)) := by
  refine iq_Cc_of (L := [some (.ref 72), some (.ref 16), some (.int x2), some (.int x3)]) rfl rfl ?_
  unfold zW_whereShared at h
  refine iq_G_go (k := 4) (σ' := (4, [some (.ref 72), some (.ref 16), some (.int x2), some (.int x3)], [.int x3, .int x2, .ref 16, .ref 72], (iq_sh l, I, J, X))) (fun _ => rfl) ?_
  obtain ⟨q1, hq1, h⟩ := iq_bnd h
  refine iq_G_call (σ' := (7, [some (.ref 72), some (.ref 16), some (.int x2), some (.int x3)], [], (iq_sh l, q1, J, X))) (fun _ => rfl) (zW_findShared_ok l x2 x3 I J X hq1) rfl rfl ?_
  refine iq_G_go (k := 2) (σ' := (11, [some (.ref 72), some (.ref 16), some (.int x2), some (.int x3)], [.int (q1 72 5)], (iq_sh l, q1, J, X))) (fun _ => rfl) ?_
  cases h
  exact iq_G_ret (fun _ => rfl)
set_option maxRecDepth 100000 in
theorem zO_shared_ok (l : Nat)  (x1 : Int32) (x2 : Int32) (x3 : Int32) (I : iq_I) (J : iq_J) (X : iq_X) {q : (Int32 ⊕ Nat) × iq_I × iq_X} (h : zO_shared x1 x2 x3 I X = some q) : iq_Cc 4 184 [.ref 1, .int x1, .int x2, .int x3] (iq_sh l, I, J, X) ((ir_Ri q.1), (iq_sh l, q.2.1, J, q.2.2)) := by
  refine iq_Cc_of (L := [some (.ref 1), some (.int x1), some (.int x2), some (.int x3)]) rfl rfl ?_
  unfold zO_shared at h
  refine iq_G_go (k := 2) (σ' := (2, [some (.ref 1), some (.int x1), some (.int x2), some (.int x3)], [.int x1, .ref 1], (iq_sh l, I, J, X))) (fun _ => rfl) ?_
  obtain ⟨q1, hq1, h⟩ := iq_bnd h
  have hC := (zO_needSaying_ok l x1 I J X hq1)
  rcases iq_smc h with ⟨a2, ha, h⟩ | ⟨k3, ha, h⟩
  · rw [ha] at hC
    refine iq_G_call (σ' := (5, [some (.ref 1), some (.int x1), some (.int x2), some (.int x3)], [], (iq_sh l, I, J, q1.2))) (fun _ => rfl) hC rfl rfl ?_
    refine iq_G_go (k := 2) (σ' := (7, [some (.ref 1), some (.int x1), some (.int x2), some (.int x3)], [.int x2, .ref 1], (iq_sh l, I, J, q1.2))) (fun _ => rfl) ?_
    obtain ⟨q4, hq4, h⟩ := iq_bnd h
    have hC := (zO_needSaying_ok l x2 I J q1.2 hq4)
    rcases iq_smc h with ⟨a5, ha, h⟩ | ⟨k6, ha, h⟩
    · rw [ha] at hC
      refine iq_G_call (σ' := (10, [some (.ref 1), some (.int x1), some (.int x2), some (.int x3)], [], (iq_sh l, I, J, q4.2))) (fun _ => rfl) hC rfl rfl ?_
      refine iq_G_go (k := 2) (σ' := (12, [some (.ref 1), some (.int x1), some (.int x2), some (.int x3)], [.int x3, .ref 1], (iq_sh l, I, J, q4.2))) (fun _ => rfl) ?_
      obtain ⟨q7, hq7, h⟩ := iq_bnd h
      have hC := (zO_needOneOfTwo_ok l x3 I J q4.2 hq7)
      rcases iq_smc h with ⟨a8, ha, h⟩ | ⟨k9, ha, h⟩
      · rw [ha] at hC
        refine iq_G_call (σ' := (15, [some (.ref 1), some (.int x1), some (.int x2), some (.int x3)], [], (iq_sh l, I, J, q7.2))) (fun _ => rfl) hC rfl rfl ?_
        refine iq_G_go (k := 1) (σ' := (16, [some (.ref 1), some (.int x1), some (.int x2), some (.int x3)], [.int x3], (iq_sh l, I, J, q7.2))) (fun _ => rfl) ?_
        rcases iq_ite h with ⟨hc_, h⟩ | ⟨hc_, h⟩
        · refine iq_G_pos (c := ¬ x3 = 0) (σ1 := (35, [some (.ref 1), some (.int x1), some (.int x2), some (.int x3)], [], (iq_sh l, I, J, q7.2))) (fun _ => rfl) hc_ ?_
          refine iq_G_go (k := 6) (σ' := (45, [some (.ref 1), some (.int x1), some (.int x2), some (.int x3)], [.int x2, .int x1, .ref 16, .ref 72], (iq_sh l, I, J, q7.2))) (fun _ => rfl) ?_
          obtain ⟨q10, hq10, h⟩ := iq_bnd h
          refine iq_G_call (σ' := (48, [some (.ref 1), some (.int x1), some (.int x2), some (.int x3)], [.int q10.1], (iq_sh l, q10.2, J, q7.2))) (fun _ => rfl) (zW_whereShared_ok l x1 x2 I J q7.2 hq10) rfl rfl ?_
          cases h
          exact iq_G_ret (fun _ => rfl)
        · refine iq_G_neg (c := ¬ x3 = 0) (σ1 := (19, [some (.ref 1), some (.int x1), some (.int x2), some (.int x3)], [], (iq_sh l, I, J, q7.2))) (fun _ => rfl) hc_ ?_
          refine iq_G_go (k := 6) (σ' := (29, [some (.ref 1), some (.int x1), some (.int x2), some (.int x3)], [.int x2, .int x1, .ref 16, .ref 72], (iq_sh l, I, J, q7.2))) (fun _ => rfl) ?_
          obtain ⟨q11, hq11, h⟩ := iq_bnd h
          refine iq_G_call (σ' := (32, [some (.ref 1), some (.int x1), some (.int x2), some (.int x3)], [.int q11.1], (iq_sh l, q11.2, J, q7.2))) (fun _ => rfl) (zW_longestShared_ok l x1 x2 I J q7.2 hq11) rfl rfl ?_
          refine iq_G_go (k := 1) (σ' := (48, [some (.ref 1), some (.int x1), some (.int x2), some (.int x3)], [.int q11.1], (iq_sh l, q11.2, J, q7.2))) (fun _ => rfl) ?_
          cases h
          exact iq_G_ret (fun _ => rfl)
      · rw [ha] at hC
        cases h
        exact iq_G_callx (fun _ => rfl) hC rfl rfl
    · rw [ha] at hC
      cases h
      exact iq_G_callx (fun _ => rfl) hC rfl rfl
  · rw [ha] at hC
    cases h
    exact iq_G_callx (fun _ => rfl) hC rfl rfl
set_option maxRecDepth 100000 in
theorem zL_shared_ok (l : Nat)  (x1 : Int32) (x2 : Int32) (x3 : Int32) (I : iq_I) (J : iq_J) (X : iq_X) {q : Int32 × iq_I × iq_J × iq_X} (h : zL_shared x1 x2 x3 I J X = some q) : iq_Cc 5 353 [.ref 1, .int x1, .int x2, .int x3, .ref 114] (iq_sh l, I, J, X) (.inl (some (.int q.1)), (iq_sh l, q.2.1, q.2.2.1, q.2.2.2)) := by
  refine iq_Cc_of (L := [some (.ref 1), some (.int x1), some (.int x2), some (.int x3), some (.ref 114), none]) rfl rfl ?_
  unfold zL_shared at h
  refine iq_G_go (k := 6) (σ' := (7, [some (.ref 1), some (.int x1), some (.int x2), some (.int x3), some (.ref 114), none], [.int x3, .int x2, .int x1, .ref 1, .int (0 : Int32), .ref 114], (iq_sh l, I, J, X))) (fun _ => rfl) ?_
  obtain ⟨q1, hq1, h⟩ := iq_bnd h
  have hC := (zO_shared_ok l x1 x2 x3 I J X hq1)
  rcases iq_smc h with ⟨a2, ha, h⟩ | ⟨k3, ha, h⟩
  · rw [ha] at hC
    refine iq_G_call (σ' := (10, [some (.ref 1), some (.int x1), some (.int x2), some (.int x3), some (.ref 114), none], [.int a2, .int (0 : Int32), .ref 114], (iq_sh l, q1.2.1, J, q1.2.2))) (fun _ => rfl) hC rfl rfl ?_
    refine iq_G_go (k := 1) (σ' := (11, [some (.ref 1), some (.int x1), some (.int x2), some (.int x3), some (.ref 114), none], [.long (Int32.toInt64 a2), .int (0 : Int32), .ref 114], (iq_sh l, q1.2.1, J, q1.2.2))) (fun _ => rfl) ?_
    refine iq_G_go (k := 1) (σ' := (12, [some (.ref 1), some (.int x1), some (.int x2), some (.int x3), some (.ref 114), none], [], (iq_sh l, q1.2.1, (iq_upJ J 114 0 (Int32.toInt64 a2)), q1.2.2))) (fun _ => rfl) ?_
    obtain ⟨J4, eJ4, h⟩ := ir_letG h
    rw [← eJ4]
    clear eJ4
    refine iq_G_go (k := 2) (σ' := (20, [some (.ref 1), some (.int x1), some (.int x2), some (.int x3), some (.ref 114), none], [.int (0 : Int32)], (iq_sh l, q1.2.1, J4, q1.2.2))) (fun _ => rfl) ?_
    cases h
    exact iq_G_ret (fun _ => rfl)
  · rw [ha] at hC
    rcases iq_ite h with ⟨e, h⟩ | ⟨_, h⟩
    · subst e
      refine iq_G_call (σ' := (17, [some (.ref 1), some (.int x1), some (.int x2), some (.int x3), some (.ref 114), none], [], (iq_sh l, q1.2.1, J, q1.2.2))) (fun _ => rfl) hC rfl rfl ?_
      refine iq_G_go (k := 1) (σ' := (18, [some (.ref 1), some (.int x1), some (.int x2), some (.int x3), some (.ref 114), none], [.int (1 : Int32)], (iq_sh l, q1.2.1, J, q1.2.2))) (fun _ => rfl) ?_
      cases h
      exact iq_G_ret (fun _ => rfl)
    · obtain ⟨e, h⟩ := iq_itn h
      cases h
set_option maxRecDepth 100000 in
theorem zM_shared_l69_bok (l : Nat)  (x1 : Int32) (x2 : Int32) (x3 : Int32) (x4 : Int32) (x5 : Int32) (x6 : Int32) (x7 : Int32) (I : iq_I) (J : iq_J) (X : iq_X) (x8 : Int32)  {q : (Int32) ⊕ (Int32)} (h : zM_shared_l69_b x1 x2 x3 x4 x5 x6 x7 I x8 = some q) (r : iq_R × iq_M) (hc : ∀ v, q = .inl v → iq_Gg 2 303 (69, [some (.ref 76), some (.int x1), some (.int x2), some (.int x3), some (.int x4), some (.int x5), some (.int x6), some (.int x7), some (.int v)], [], (iq_sh l, I, J, X)) r) (hx : ∀ w, q = .inr w → iq_Gg 2 303 (134, [some (.ref 76), some (.int x1), some (.int x2), some (.int x3), some (.int x4), some (.int x5), some (.int x6), some (.int x7), some (.int w)], [], (iq_sh l, I, J, X)) r) : iq_Gg 2 303 (69, [some (.ref 76), some (.int x1), some (.int x2), some (.int x3), some (.int x4), some (.int x5), some (.int x6), some (.int x7), some (.int x8)], [], (iq_sh l, I, J, X)) r := by
  unfold zM_shared_l69_b at h
  refine iq_G_go (k := 6) (σ' := (79, [some (.ref 76), some (.int x1), some (.int x2), some (.int x3), some (.int x4), some (.int x5), some (.int x6), some (.int x7), some (.int x8)], [.int x1, .ref 98, .int (x6 + x8)], (iq_sh l, I, J, X))) (fun _ => rfl) ?_
  obtain ⟨hc_, h⟩ := iq_itn h
  refine iq_G_pos (c := iq_in x1 206) (σ1 := (80, [some (.ref 76), some (.int x1), some (.int x2), some (.int x3), some (.int x4), some (.int x5), some (.int x6), some (.int x7), some (.int x8)], [.int (I 98 (Int32.toNatClampNeg x1)), .int (x6 + x8)], (iq_sh l, I, J, X))) (fun _ => rfl) hc_ ?_
  rcases iq_ite h with ⟨hc_, h⟩ | ⟨hc_, h⟩
  · refine iq_G_pos (c := (I 98 (Int32.toNatClampNeg x1)) ≤ (x6 + x8)) (σ1 := (134, [some (.ref 76), some (.int x1), some (.int x2), some (.int x3), some (.int x4), some (.int x5), some (.int x6), some (.int x7), some (.int x8)], [], (iq_sh l, I, J, X))) (fun _ => rfl) hc_ ?_
    cases h
    exact iq_G_fg (L := [some (.ref 76), some (.int x1), some (.int x2), some (.int x3), some (.int x4), some (.int x5), some (.int x6), some (.int x7), some (.int x8)]) (And.intro rfl (And.intro rfl (And.intro rfl (And.intro rfl (And.intro rfl (And.intro rfl (And.intro rfl (And.intro rfl (And.intro rfl trivial))))))))) (hx x8 rfl)
  · refine iq_G_neg (c := (I 98 (Int32.toNatClampNeg x1)) ≤ (x6 + x8)) (σ1 := (83, [some (.ref 76), some (.int x1), some (.int x2), some (.int x3), some (.int x4), some (.int x5), some (.int x6), some (.int x7), some (.int x8)], [], (iq_sh l, I, J, X))) (fun _ => rfl) hc_ ?_
    refine iq_G_go (k := 6) (σ' := (93, [some (.ref 76), some (.int x1), some (.int x2), some (.int x3), some (.int x4), some (.int x5), some (.int x6), some (.int x7), some (.int x8)], [.int x2, .ref 98, .int (x7 + x8)], (iq_sh l, I, J, X))) (fun _ => rfl) ?_
    obtain ⟨hc_, h⟩ := iq_itn h
    refine iq_G_pos (c := iq_in x2 206) (σ1 := (94, [some (.ref 76), some (.int x1), some (.int x2), some (.int x3), some (.int x4), some (.int x5), some (.int x6), some (.int x7), some (.int x8)], [.int (I 98 (Int32.toNatClampNeg x2)), .int (x7 + x8)], (iq_sh l, I, J, X))) (fun _ => rfl) hc_ ?_
    rcases iq_ite h with ⟨hc_, h⟩ | ⟨hc_, h⟩
    · refine iq_G_pos (c := (I 98 (Int32.toNatClampNeg x2)) ≤ (x7 + x8)) (σ1 := (134, [some (.ref 76), some (.int x1), some (.int x2), some (.int x3), some (.int x4), some (.int x5), some (.int x6), some (.int x7), some (.int x8)], [], (iq_sh l, I, J, X))) (fun _ => rfl) hc_ ?_
      cases h
      exact iq_G_fg (L := [some (.ref 76), some (.int x1), some (.int x2), some (.int x3), some (.int x4), some (.int x5), some (.int x6), some (.int x7), some (.int x8)]) (And.intro rfl (And.intro rfl (And.intro rfl (And.intro rfl (And.intro rfl (And.intro rfl (And.intro rfl (And.intro rfl (And.intro rfl trivial))))))))) (hx x8 rfl)
    · refine iq_G_neg (c := (I 98 (Int32.toNatClampNeg x2)) ≤ (x7 + x8)) (σ1 := (97, [some (.ref 76), some (.int x1), some (.int x2), some (.int x3), some (.int x4), some (.int x5), some (.int x6), some (.int x7), some (.int x8)], [], (iq_sh l, I, J, X))) (fun _ => rfl) hc_ ?_
      refine iq_G_go (k := 7) (σ' := (108, [some (.ref 76), some (.int x1), some (.int x2), some (.int x3), some (.int x4), some (.int x5), some (.int x6), some (.int x7), some (.int x8)], [.int (x6 + x8), .int x1, .ref 98, .ref 76], (iq_sh l, I, J, X))) (fun _ => rfl) ?_
      obtain ⟨q5, hq5, h⟩ := iq_bnd h
      refine iq_G_call (σ' := (111, [some (.ref 76), some (.int x1), some (.int x2), some (.int x3), some (.int x4), some (.int x5), some (.int x6), some (.int x7), some (.int x8)], [.int q5], (iq_sh l, I, J, X))) (fun _ => rfl) (zM_wordAt_76_98_ok l x1 (x6 + x8) I J X hq5) rfl rfl ?_
      refine iq_G_go (k := 7) (σ' := (122, [some (.ref 76), some (.int x1), some (.int x2), some (.int x3), some (.int x4), some (.int x5), some (.int x6), some (.int x7), some (.int x8)], [.int (x7 + x8), .int x2, .ref 98, .ref 76, .int q5], (iq_sh l, I, J, X))) (fun _ => rfl) ?_
      obtain ⟨q6, hq6, h⟩ := iq_bnd h
      refine iq_G_call (σ' := (125, [some (.ref 76), some (.int x1), some (.int x2), some (.int x3), some (.int x4), some (.int x5), some (.int x6), some (.int x7), some (.int x8)], [.int q6, .int q5], (iq_sh l, I, J, X))) (fun _ => rfl) (zM_wordAt_76_98_ok l x2 (x7 + x8) I J X hq6) rfl rfl ?_
      rcases iq_ite h with ⟨hc_, h⟩ | ⟨hc_, h⟩
      · refine iq_G_pos (c := ¬ q5 = q6) (σ1 := (134, [some (.ref 76), some (.int x1), some (.int x2), some (.int x3), some (.int x4), some (.int x5), some (.int x6), some (.int x7), some (.int x8)], [], (iq_sh l, I, J, X))) (fun _ => rfl) hc_ ?_
        cases h
        exact iq_G_fg (L := [some (.ref 76), some (.int x1), some (.int x2), some (.int x3), some (.int x4), some (.int x5), some (.int x6), some (.int x7), some (.int x8)]) (And.intro rfl (And.intro rfl (And.intro rfl (And.intro rfl (And.intro rfl (And.intro rfl (And.intro rfl (And.intro rfl (And.intro rfl trivial))))))))) (hx x8 rfl)
      · refine iq_G_neg (c := ¬ q5 = q6) (σ1 := (128, [some (.ref 76), some (.int x1), some (.int x2), some (.int x3), some (.int x4), some (.int x5), some (.int x6), some (.int x7), some (.int x8)], [], (iq_sh l, I, J, X))) (fun _ => rfl) hc_ ?_
        refine iq_G_go (k := 2) (σ' := (69, [some (.ref 76), some (.int x1), some (.int x2), some (.int x3), some (.int x4), some (.int x5), some (.int x6), some (.int x7), some (.int (x8 + (1 : Int32)))], [], (iq_sh l, I, J, X))) (fun _ => rfl) ?_
        cases h
        exact iq_G_fg (L := [some (.ref 76), some (.int x1), some (.int x2), some (.int x3), some (.int x4), some (.int x5), some (.int x6), some (.int x7), some (.int (x8 + (1 : Int32)))]) (And.intro rfl (And.intro rfl (And.intro rfl (And.intro rfl (And.intro rfl (And.intro rfl (And.intro rfl (And.intro rfl (And.intro rfl trivial))))))))) (hc (x8 + (1 : Int32)) rfl)
set_option maxRecDepth 100000 in
theorem zM_shared_l69_ok (l : Nat)  (x1 : Int32) (x2 : Int32) (x3 : Int32) (x4 : Int32) (x5 : Int32) (x6 : Int32) (x7 : Int32) (I : iq_I) (J : iq_J) (X : iq_X) {n : Nat} {v : Int32} {w : Int32} (h : zM_shared_l69 x1 x2 x3 x4 x5 x6 x7 I n v = some w) (r : iq_R × iq_M) (hq : iq_Gg 2 303 (134, [some (.ref 76), some (.int x1), some (.int x2), some (.int x3), some (.int x4), some (.int x5), some (.int x6), some (.int x7), some (.int w)], [], (iq_sh l, I, J, X)) r) : iq_Gg 2 303 (69, [some (.ref 76), some (.int x1), some (.int x2), some (.int x3), some (.int x4), some (.int x5), some (.int x6), some (.int x7), some (.int v)], [], (iq_sh l, I, J, X)) r :=
  iq_lp_ok (σ := fun v => (69, [some (.ref 76), some (.int x1), some (.int x2), some (.int x3), some (.int x4), some (.int x5), some (.int x6), some (.int x7), some (.int v)], [], (iq_sh l, I, J, X))) (Q := fun w r => iq_Gg 2 303 (134, [some (.ref 76), some (.int x1), some (.int x2), some (.int x3), some (.int x4), some (.int x5), some (.int x6), some (.int x7), some (.int w)], [], (iq_sh l, I, J, X)) r) (fun v q hv r h1 h2 => zM_shared_l69_bok l x1 x2 x3 x4 x5 x6 x7 I J X v hv r h1 h2) h r hq
set_option maxRecDepth 100000 in
theorem zM_shared_134_ok (l : Nat)  (x1 : Int32) (x2 : Int32) (x3 : Int32) (x4 : Int32) (x5 : Int32) (x6 : Int32) (x7 : Int32) (x8 : Int32) (I : iq_I) (J : iq_J) (X : iq_X)  {q : (Int32 × Int32 × Int32) ⊕ (Int32 × Int32)} (h : zM_shared_134 x1 x2 x3 x4 x5 x6 x7 x8 I = some q) (r : iq_R × iq_M) (hc : ∀ v, q = .inl v → iq_Gg 2 303 (55, [some (.ref 76), some (.int x1), some (.int x2), some (.int x3), some (.int v.1), some (.int v.2.1), some (.int x6), some (.int v.2.2), none], [], (iq_sh l, I, J, X)) r) (hx : ∀ w, q = .inr w → iq_Gg 2 303 (158, [some (.ref 76), some (.int x1), some (.int x2), some (.int x3), some (.int w.1), some (.int w.2), some (.int x6), none, none], [], (iq_sh l, I, J, X)) r) : iq_Gg 2 303 (134, [some (.ref 76), some (.int x1), some (.int x2), some (.int x3), some (.int x4), some (.int x5), some (.int x6), some (.int x7), some (.int x8)], [], (iq_sh l, I, J, X)) r := by
  unfold zM_shared_134 at h
  refine iq_G_go (k := 2) (σ' := (138, [some (.ref 76), some (.int x1), some (.int x2), some (.int x3), some (.int x4), some (.int x5), some (.int x6), some (.int x7), some (.int x8)], [.int x4, .int x8], (iq_sh l, I, J, X))) (fun _ => rfl) ?_
  rcases iq_ite h with ⟨hc_, h⟩ | ⟨hc_, h⟩
  · refine iq_G_pos (c := x4 < x8) (σ1 := (144, [some (.ref 76), some (.int x1), some (.int x2), some (.int x3), some (.int x4), some (.int x5), some (.int x6), some (.int x7), some (.int x8)], [], (iq_sh l, I, J, X))) (fun _ => rfl) hc_ ?_
    refine iq_G_go (k := 6) (σ' := (55, [some (.ref 76), some (.int x1), some (.int x2), some (.int x3), some (.int x8), some (.int x6), some (.int x6), some (.int (x7 + (1 : Int32))), some (.int x8)], [], (iq_sh l, I, J, X))) (fun _ => rfl) ?_
    cases h
    exact iq_G_fg (L := [some (.ref 76), some (.int x1), some (.int x2), some (.int x3), some (.int x8), some (.int x6), some (.int x6), some (.int (x7 + (1 : Int32))), none]) (And.intro rfl (And.intro rfl (And.intro rfl (And.intro rfl (And.intro rfl (And.intro rfl (And.intro rfl (And.intro rfl trivial)))))))) (hc (x8, x6, (x7 + (1 : Int32))) rfl)
  · refine iq_G_neg (c := x4 < x8) (σ1 := (141, [some (.ref 76), some (.int x1), some (.int x2), some (.int x3), some (.int x4), some (.int x5), some (.int x6), some (.int x7), some (.int x8)], [], (iq_sh l, I, J, X))) (fun _ => rfl) hc_ ?_
    refine iq_G_go (k := 3) (σ' := (55, [some (.ref 76), some (.int x1), some (.int x2), some (.int x3), some (.int x4), some (.int x5), some (.int x6), some (.int (x7 + (1 : Int32))), some (.int x8)], [], (iq_sh l, I, J, X))) (fun _ => rfl) ?_
    cases h
    exact iq_G_fg (L := [some (.ref 76), some (.int x1), some (.int x2), some (.int x3), some (.int x4), some (.int x5), some (.int x6), some (.int (x7 + (1 : Int32))), none]) (And.intro rfl (And.intro rfl (And.intro rfl (And.intro rfl (And.intro rfl (And.intro rfl (And.intro rfl (And.intro rfl trivial)))))))) (hc (x4, x5, (x7 + (1 : Int32))) rfl)
set_option maxRecDepth 100000 in
theorem zM_shared_l55_bok (l : Nat)  (x1 : Int32) (x2 : Int32) (x3 : Int32) (x6 : Int32) (I : iq_I) (J : iq_J) (X : iq_X) (x4 : Int32) (x5 : Int32) (x7 : Int32)  {q : (Int32 × Int32 × Int32) ⊕ (Int32 × Int32)} (h : zM_shared_l55_b x1 x2 x3 x6 I x4 x5 x7 = some q) (r : iq_R × iq_M) (hc : ∀ v, q = .inl v → iq_Gg 2 303 (55, [some (.ref 76), some (.int x1), some (.int x2), some (.int x3), some (.int v.1), some (.int v.2.1), some (.int x6), some (.int v.2.2), none], [], (iq_sh l, I, J, X)) r) (hx : ∀ w, q = .inr w → iq_Gg 2 303 (158, [some (.ref 76), some (.int x1), some (.int x2), some (.int x3), some (.int w.1), some (.int w.2), some (.int x6), none, none], [], (iq_sh l, I, J, X)) r) : iq_Gg 2 303 (55, [some (.ref 76), some (.int x1), some (.int x2), some (.int x3), some (.int x4), some (.int x5), some (.int x6), some (.int x7), none], [], (iq_sh l, I, J, X)) r := by
  unfold zM_shared_l55_b at h
  refine iq_G_go (k := 4) (σ' := (62, [some (.ref 76), some (.int x1), some (.int x2), some (.int x3), some (.int x4), some (.int x5), some (.int x6), some (.int x7), none], [.int x2, .ref 98, .int x7], (iq_sh l, I, J, X))) (fun _ => rfl) ?_
  obtain ⟨hc_, h⟩ := iq_itn h
  refine iq_G_pos (c := iq_in x2 206) (σ1 := (63, [some (.ref 76), some (.int x1), some (.int x2), some (.int x3), some (.int x4), some (.int x5), some (.int x6), some (.int x7), none], [.int (I 98 (Int32.toNatClampNeg x2)), .int x7], (iq_sh l, I, J, X))) (fun _ => rfl) hc_ ?_
  rcases iq_ite h with ⟨hc_, h⟩ | ⟨hc_, h⟩
  · refine iq_G_pos (c := (I 98 (Int32.toNatClampNeg x2)) ≤ x7) (σ1 := (158, [some (.ref 76), some (.int x1), some (.int x2), some (.int x3), some (.int x4), some (.int x5), some (.int x6), some (.int x7), none], [], (iq_sh l, I, J, X))) (fun _ => rfl) hc_ ?_
    cases h
    exact iq_G_fg (L := [some (.ref 76), some (.int x1), some (.int x2), some (.int x3), some (.int x4), some (.int x5), some (.int x6), none, none]) (And.intro rfl (And.intro rfl (And.intro rfl (And.intro rfl (And.intro rfl (And.intro rfl (And.intro rfl trivial))))))) (hx (x4, x5) rfl)
  · refine iq_G_neg (c := (I 98 (Int32.toNatClampNeg x2)) ≤ x7) (σ1 := (66, [some (.ref 76), some (.int x1), some (.int x2), some (.int x3), some (.int x4), some (.int x5), some (.int x6), some (.int x7), none], [], (iq_sh l, I, J, X))) (fun _ => rfl) hc_ ?_
    refine iq_G_go (k := 2) (σ' := (69, [some (.ref 76), some (.int x1), some (.int x2), some (.int x3), some (.int x4), some (.int x5), some (.int x6), some (.int x7), some (.int (0 : Int32))], [], (iq_sh l, I, J, X))) (fun _ => rfl) ?_
    obtain ⟨w7, hw7, h⟩ := iq_bnd h
    refine iq_G_fg (L := [some (.ref 76), some (.int x1), some (.int x2), some (.int x3), some (.int x4), some (.int x5), some (.int x6), some (.int x7), some (.int (0 : Int32))]) (And.intro rfl (And.intro rfl (And.intro rfl (And.intro rfl (And.intro rfl (And.intro rfl (And.intro rfl (And.intro rfl (And.intro rfl trivial))))))))) ?_
    refine zM_shared_l69_ok l x1 x2 x3 x4 x5 x6 x7 I J X hw7 _ ?_
    show iq_Gg 2 303 (134, [some (.ref 76), some (.int x1), some (.int x2), some (.int x3), some (.int x4), some (.int x5), some (.int x6), some (.int x7), some (.int w7)], [], (iq_sh l, I, J, X)) _
    exact iq_G_fg (L := [some (.ref 76), some (.int x1), some (.int x2), some (.int x3), some (.int x4), some (.int x5), some (.int x6), some (.int x7), some (.int w7)]) (And.intro rfl (And.intro rfl (And.intro rfl (And.intro rfl (And.intro rfl (And.intro rfl (And.intro rfl (And.intro rfl (And.intro rfl trivial))))))))) (zM_shared_134_ok l x1 x2 x3 x4 x5 x6 x7 w7 I J X  h r hc hx)
set_option maxRecDepth 100000 in
theorem zM_shared_l55_ok (l : Nat)  (x1 : Int32) (x2 : Int32) (x3 : Int32) (x6 : Int32) (I : iq_I) (J : iq_J) (X : iq_X) {n : Nat} {v : Int32 × Int32 × Int32} {w : Int32 × Int32} (h : zM_shared_l55 x1 x2 x3 x6 I n v = some w) (r : iq_R × iq_M) (hq : iq_Gg 2 303 (158, [some (.ref 76), some (.int x1), some (.int x2), some (.int x3), some (.int w.1), some (.int w.2), some (.int x6), none, none], [], (iq_sh l, I, J, X)) r) : iq_Gg 2 303 (55, [some (.ref 76), some (.int x1), some (.int x2), some (.int x3), some (.int v.1), some (.int v.2.1), some (.int x6), some (.int v.2.2), none], [], (iq_sh l, I, J, X)) r :=
  iq_lp_ok (σ := fun v => (55, [some (.ref 76), some (.int x1), some (.int x2), some (.int x3), some (.int v.1), some (.int v.2.1), some (.int x6), some (.int v.2.2), none], [], (iq_sh l, I, J, X))) (Q := fun w r => iq_Gg 2 303 (158, [some (.ref 76), some (.int x1), some (.int x2), some (.int x3), some (.int w.1), some (.int w.2), some (.int x6), none, none], [], (iq_sh l, I, J, X)) r) (fun v q hv r h1 h2 => zM_shared_l55_bok l x1 x2 x3 x6 I J X v.1 v.2.1 v.2.2 hv r h1 h2) h r hq
set_option maxRecDepth 100000 in
theorem zM_shared_l41_bok (l : Nat)  (x1 : Int32) (x2 : Int32) (x3 : Int32) (I : iq_I) (J : iq_J) (X : iq_X) (x4 : Int32) (x5 : Int32) (x6 : Int32)  {q : (Int32 × Int32 × Int32) ⊕ (Int32 × Int32)} (h : zM_shared_l41_b x1 x2 x3 I x4 x5 x6 = some q) (r : iq_R × iq_M) (hc : ∀ v, q = .inl v → iq_Gg 2 303 (41, [some (.ref 76), some (.int x1), some (.int x2), some (.int x3), some (.int v.1), some (.int v.2.1), some (.int v.2.2), none, none], [], (iq_sh l, I, J, X)) r) (hx : ∀ w, q = .inr w → iq_Gg 2 303 (164, [none, none, none, some (.int x3), some (.int w.1), some (.int w.2), none, none, none], [], (iq_sh l, I, J, X)) r) : iq_Gg 2 303 (41, [some (.ref 76), some (.int x1), some (.int x2), some (.int x3), some (.int x4), some (.int x5), some (.int x6), none, none], [], (iq_sh l, I, J, X)) r := by
  unfold zM_shared_l41_b at h
  refine iq_G_go (k := 4) (σ' := (48, [some (.ref 76), some (.int x1), some (.int x2), some (.int x3), some (.int x4), some (.int x5), some (.int x6), none, none], [.int x1, .ref 98, .int x6], (iq_sh l, I, J, X))) (fun _ => rfl) ?_
  obtain ⟨hc_, h⟩ := iq_itn h
  refine iq_G_pos (c := iq_in x1 206) (σ1 := (49, [some (.ref 76), some (.int x1), some (.int x2), some (.int x3), some (.int x4), some (.int x5), some (.int x6), none, none], [.int (I 98 (Int32.toNatClampNeg x1)), .int x6], (iq_sh l, I, J, X))) (fun _ => rfl) hc_ ?_
  rcases iq_ite h with ⟨hc_, h⟩ | ⟨hc_, h⟩
  · refine iq_G_pos (c := (I 98 (Int32.toNatClampNeg x1)) ≤ x6) (σ1 := (164, [some (.ref 76), some (.int x1), some (.int x2), some (.int x3), some (.int x4), some (.int x5), some (.int x6), none, none], [], (iq_sh l, I, J, X))) (fun _ => rfl) hc_ ?_
    cases h
    exact iq_G_fg (L := [none, none, none, some (.int x3), some (.int x4), some (.int x5), none, none, none]) (And.intro rfl (And.intro rfl (And.intro rfl trivial))) (hx (x4, x5) rfl)
  · refine iq_G_neg (c := (I 98 (Int32.toNatClampNeg x1)) ≤ x6) (σ1 := (52, [some (.ref 76), some (.int x1), some (.int x2), some (.int x3), some (.int x4), some (.int x5), some (.int x6), none, none], [], (iq_sh l, I, J, X))) (fun _ => rfl) hc_ ?_
    refine iq_G_go (k := 2) (σ' := (55, [some (.ref 76), some (.int x1), some (.int x2), some (.int x3), some (.int x4), some (.int x5), some (.int x6), some (.int (0 : Int32)), none], [], (iq_sh l, I, J, X))) (fun _ => rfl) ?_
    obtain ⟨w8, hw8, h⟩ := iq_bnd h
    refine iq_G_fg (L := [some (.ref 76), some (.int x1), some (.int x2), some (.int x3), some (.int x4), some (.int x5), some (.int x6), some (.int (0 : Int32)), none]) (And.intro rfl (And.intro rfl (And.intro rfl (And.intro rfl (And.intro rfl (And.intro rfl (And.intro rfl (And.intro rfl trivial)))))))) ?_
    refine zM_shared_l55_ok l x1 x2 x3 x6 I J X hw8 _ ?_
    show iq_Gg 2 303 (158, [some (.ref 76), some (.int x1), some (.int x2), some (.int x3), some (.int w8.1), some (.int w8.2), some (.int x6), none, none], [], (iq_sh l, I, J, X)) _
    refine iq_G_go (k := 2) (σ' := (41, [some (.ref 76), some (.int x1), some (.int x2), some (.int x3), some (.int w8.1), some (.int w8.2), some (.int (x6 + (1 : Int32))), none, none], [], (iq_sh l, I, J, X))) (fun _ => rfl) ?_
    cases h
    exact iq_G_fg (L := [some (.ref 76), some (.int x1), some (.int x2), some (.int x3), some (.int w8.1), some (.int w8.2), some (.int (x6 + (1 : Int32))), none, none]) (And.intro rfl (And.intro rfl (And.intro rfl (And.intro rfl (And.intro rfl (And.intro rfl (And.intro rfl trivial))))))) (hc (w8.1, w8.2, (x6 + (1 : Int32))) rfl)
set_option maxRecDepth 100000 in
theorem zM_shared_l41_ok (l : Nat)  (x1 : Int32) (x2 : Int32) (x3 : Int32) (I : iq_I) (J : iq_J) (X : iq_X) {n : Nat} {v : Int32 × Int32 × Int32} {w : Int32 × Int32} (h : zM_shared_l41 x1 x2 x3 I n v = some w) (r : iq_R × iq_M) (hq : iq_Gg 2 303 (164, [none, none, none, some (.int x3), some (.int w.1), some (.int w.2), none, none, none], [], (iq_sh l, I, J, X)) r) : iq_Gg 2 303 (41, [some (.ref 76), some (.int x1), some (.int x2), some (.int x3), some (.int v.1), some (.int v.2.1), some (.int v.2.2), none, none], [], (iq_sh l, I, J, X)) r :=
  iq_lp_ok (σ := fun v => (41, [some (.ref 76), some (.int x1), some (.int x2), some (.int x3), some (.int v.1), some (.int v.2.1), some (.int v.2.2), none, none], [], (iq_sh l, I, J, X))) (Q := fun w r => iq_Gg 2 303 (164, [none, none, none, some (.int x3), some (.int w.1), some (.int w.2), none, none, none], [], (iq_sh l, I, J, X)) r) (fun v q hv r h1 h2 => zM_shared_l41_bok l x1 x2 x3 I J X v.1 v.2.1 v.2.2 hv r h1 h2) h r hq
set_option maxRecDepth 100000 in
theorem zM_shared_ok (l : Nat)  (x1 : Int32) (x2 : Int32) (x3 : Int32) (I : iq_I) (J : iq_J) (X : iq_X) {q : Int32 × iq_I} (h : zM_shared x1 x2 x3 I = some q) : iq_Cc 3 303 [.ref 76, .int x1, .int x2, .int x3] (iq_sh l, I, J, X) (.inl (some (.int q.1)), (iq_sh l, q.2, J, X)) := by
  refine iq_Cc_of (L := [some (.ref 76), some (.int x1), some (.int x2), some (.int x3), none, none, none, none, none]) rfl rfl ?_
  unfold zM_shared at h
  refine iq_G_go (k := 2) (σ' := (2, [some (.ref 76), some (.int x1), some (.int x2), some (.int x3), none, none, none, none, none], [.int (0 : Int32), .ref 76], (iq_sh l, I, J, X))) (fun _ => rfl) ?_
  refine iq_G_go (k := 1) (σ' := (5, [some (.ref 76), some (.int x1), some (.int x2), some (.int x3), none, none, none, none, none], [], (iq_sh l, (iq_upI I 76 0 (0 : Int32)), J, X))) (fun _ => rfl) ?_
  obtain ⟨I1, eI1, h⟩ := ir_letG h
  rw [← eI1]
  clear eI1
  refine iq_G_go (k := 2) (σ' := (7, [some (.ref 76), some (.int x1), some (.int x2), some (.int x3), none, none, none, none, none], [.int x1, .ref 76], (iq_sh l, I1, J, X))) (fun _ => rfl) ?_
  obtain ⟨q2, hq2, h⟩ := iq_bnd h
  refine iq_G_call (σ' := (10, [some (.ref 76), some (.int x1), some (.int x2), some (.int x3), none, none, none, none, none], [.int q2.1], (iq_sh l, q2.2, J, X))) (fun _ => rfl) (zM_isSaying_ok l x1 I1 J X hq2) rfl rfl ?_
  rcases iq_ite h with ⟨hc_, h⟩ | ⟨hc_, h⟩
  · refine iq_G_pos (c := q2.1 = 0) (σ1 := (30, [some (.ref 76), some (.int x1), some (.int x2), some (.int x3), none, none, none, none, none], [], (iq_sh l, q2.2, J, X))) (fun _ => rfl) hc_ ?_
    refine iq_G_go (k := 1) (σ' := (31, [some (.ref 76), some (.int x1), some (.int x2), some (.int x3), none, none, none, none, none], [.int (0 : Int32)], (iq_sh l, q2.2, J, X))) (fun _ => rfl) ?_
    cases h
    exact iq_G_ret (fun _ => rfl)
  · refine iq_G_neg (c := q2.1 = 0) (σ1 := (13, [some (.ref 76), some (.int x1), some (.int x2), some (.int x3), none, none, none, none, none], [], (iq_sh l, q2.2, J, X))) (fun _ => rfl) hc_ ?_
    refine iq_G_go (k := 2) (σ' := (15, [some (.ref 76), some (.int x1), some (.int x2), some (.int x3), none, none, none, none, none], [.int x2, .ref 76], (iq_sh l, q2.2, J, X))) (fun _ => rfl) ?_
    obtain ⟨q3, hq3, h⟩ := iq_bnd h
    refine iq_G_call (σ' := (18, [some (.ref 76), some (.int x1), some (.int x2), some (.int x3), none, none, none, none, none], [.int q3.1], (iq_sh l, q3.2, J, X))) (fun _ => rfl) (zM_isSaying_ok l x2 q2.2 J X hq3) rfl rfl ?_
    rcases iq_ite h with ⟨hc_, h⟩ | ⟨hc_, h⟩
    · refine iq_G_pos (c := q3.1 = 0) (σ1 := (30, [some (.ref 76), some (.int x1), some (.int x2), some (.int x3), none, none, none, none, none], [], (iq_sh l, q3.2, J, X))) (fun _ => rfl) hc_ ?_
      refine iq_G_go (k := 1) (σ' := (31, [some (.ref 76), some (.int x1), some (.int x2), some (.int x3), none, none, none, none, none], [.int (0 : Int32)], (iq_sh l, q3.2, J, X))) (fun _ => rfl) ?_
      cases h
      exact iq_G_ret (fun _ => rfl)
    · refine iq_G_neg (c := q3.1 = 0) (σ1 := (21, [some (.ref 76), some (.int x1), some (.int x2), some (.int x3), none, none, none, none, none], [], (iq_sh l, q3.2, J, X))) (fun _ => rfl) hc_ ?_
      refine iq_G_go (k := 3) (σ' := (24, [some (.ref 76), some (.int x1), some (.int x2), some (.int x3), none, none, none, none, none], [.int (1 : Int32), .int x3, .ref 76], (iq_sh l, q3.2, J, X))) (fun _ => rfl) ?_
      obtain ⟨q4, hq4, h⟩ := iq_bnd h
      refine iq_G_call (σ' := (27, [some (.ref 76), some (.int x1), some (.int x2), some (.int x3), none, none, none, none, none], [.int q4.1], (iq_sh l, q4.2, J, X))) (fun _ => rfl) (zM_isWhat_ok l x3 (1 : Int32) q3.2 J X hq4) rfl rfl ?_
      rcases iq_ite h with ⟨hc_, h⟩ | ⟨hc_, h⟩
      · refine iq_G_pos (c := ¬ q4.1 = 0) (σ1 := (32, [some (.ref 76), some (.int x1), some (.int x2), some (.int x3), none, none, none, none, none], [], (iq_sh l, q4.2, J, X))) (fun _ => rfl) hc_ ?_
        refine iq_G_go (k := 6) (σ' := (41, [some (.ref 76), some (.int x1), some (.int x2), some (.int x3), some (.int (0 : Int32)), some (.int (-1 : Int32)), some (.int (0 : Int32)), none, none], [], (iq_sh l, q4.2, J, X))) (fun _ => rfl) ?_
        obtain ⟨w9, hw9, h⟩ := iq_bnd h
        refine iq_G_fg (L := [some (.ref 76), some (.int x1), some (.int x2), some (.int x3), some (.int (0 : Int32)), some (.int (-1 : Int32)), some (.int (0 : Int32)), none, none]) (And.intro rfl (And.intro rfl (And.intro rfl (And.intro rfl (And.intro rfl (And.intro rfl (And.intro rfl trivial))))))) ?_
        refine zM_shared_l41_ok l x1 x2 x3 q4.2 J X hw9 _ ?_
        show iq_Gg 2 303 (164, [none, none, none, some (.int x3), some (.int w9.1), some (.int w9.2), none, none, none], [], (iq_sh l, q4.2, J, X)) _
        refine iq_G_go (k := 1) (σ' := (165, [none, none, none, some (.int x3), some (.int w9.1), some (.int w9.2), none, none, none], [.int x3], (iq_sh l, q4.2, J, X))) (fun _ => rfl) ?_
        rcases iq_ite h with ⟨hc_, h⟩ | ⟨hc_, h⟩
        · refine iq_G_pos (c := ¬ x3 = 0) (σ1 := (173, [none, none, none, some (.int x3), some (.int w9.1), some (.int w9.2), none, none, none], [], (iq_sh l, q4.2, J, X))) (fun _ => rfl) hc_ ?_
          refine iq_G_go (k := 1) (σ' := (175, [none, none, none, some (.int x3), some (.int w9.1), some (.int w9.2), none, none, none], [.int w9.2], (iq_sh l, q4.2, J, X))) (fun _ => rfl) ?_
          cases h
          exact iq_G_ret (fun _ => rfl)
        · refine iq_G_neg (c := ¬ x3 = 0) (σ1 := (168, [none, none, none, some (.int x3), some (.int w9.1), some (.int w9.2), none, none, none], [], (iq_sh l, q4.2, J, X))) (fun _ => rfl) hc_ ?_
          refine iq_G_go (k := 2) (σ' := (175, [none, none, none, some (.int x3), some (.int w9.1), some (.int w9.2), none, none, none], [.int w9.1], (iq_sh l, q4.2, J, X))) (fun _ => rfl) ?_
          cases h
          exact iq_G_ret (fun _ => rfl)
      · refine iq_G_neg (c := ¬ q4.1 = 0) (σ1 := (30, [some (.ref 76), some (.int x1), some (.int x2), some (.int x3), none, none, none, none, none], [], (iq_sh l, q4.2, J, X))) (fun _ => rfl) hc_ ?_
        refine iq_G_go (k := 1) (σ' := (31, [some (.ref 76), some (.int x1), some (.int x2), some (.int x3), none, none, none, none, none], [.int (0 : Int32)], (iq_sh l, q4.2, J, X))) (fun _ => rfl) ?_
        cases h
        exact iq_G_ret (fun _ => rfl)
set_option maxRecDepth 100000 in
theorem zU_leadsTo_4_ok (l : Nat)  (x1 : Int32) (x2 : Int32) (I : iq_I) (J : iq_J) (X : iq_X) {q : Int32} (h : zU_leadsTo_4 x1 x2 I = some q) : iq_Cc 1 49 [.ref 4, .int x1, .int x2] (iq_sh l, I, J, X) (.inl (some (.int q)), (iq_sh l, I, J, X)) := by
  refine iq_Cc_of (L := [some (.ref 4), some (.int x1), some (.int x2)]) rfl rfl ?_
  unfold zU_leadsTo_4 at h
  refine iq_G_go (k := 1) (σ' := (1, [some (.ref 4), some (.int x1), some (.int x2)], [.int x1], (iq_sh l, I, J, X))) (fun _ => rfl) ?_
  rcases iq_ite h with ⟨hc_, h⟩ | ⟨hc_, h⟩
  · refine iq_G_pos (c := x1 < 0) (σ1 := (24, [some (.ref 4), some (.int x1), some (.int x2)], [], (iq_sh l, I, J, X))) (fun _ => rfl) hc_ ?_
    refine iq_G_go (k := 1) (σ' := (25, [some (.ref 4), some (.int x1), some (.int x2)], [.int (-1 : Int32)], (iq_sh l, I, J, X))) (fun _ => rfl) ?_
    cases h
    exact iq_G_ret (fun _ => rfl)
  · refine iq_G_neg (c := x1 < 0) (σ1 := (4, [some (.ref 4), some (.int x1), some (.int x2)], [], (iq_sh l, I, J, X))) (fun _ => rfl) hc_ ?_
    refine iq_G_go (k := 3) (σ' := (9, [some (.ref 4), some (.int x1), some (.int x2)], [.int (I 4 0), .int x1], (iq_sh l, I, J, X))) (fun _ => rfl) ?_
    rcases iq_ite h with ⟨hc_, h⟩ | ⟨hc_, h⟩
    · refine iq_G_pos (c := (I 4 0) ≤ x1) (σ1 := (24, [some (.ref 4), some (.int x1), some (.int x2)], [], (iq_sh l, I, J, X))) (fun _ => rfl) hc_ ?_
      refine iq_G_go (k := 1) (σ' := (25, [some (.ref 4), some (.int x1), some (.int x2)], [.int (-1 : Int32)], (iq_sh l, I, J, X))) (fun _ => rfl) ?_
      cases h
      exact iq_G_ret (fun _ => rfl)
    · refine iq_G_neg (c := (I 4 0) ≤ x1) (σ1 := (12, [some (.ref 4), some (.int x1), some (.int x2)], [], (iq_sh l, I, J, X))) (fun _ => rfl) hc_ ?_
      refine iq_G_go (k := 1) (σ' := (13, [some (.ref 4), some (.int x1), some (.int x2)], [.int x2], (iq_sh l, I, J, X))) (fun _ => rfl) ?_
      rcases iq_ite h with ⟨hc_, h⟩ | ⟨hc_, h⟩
      · refine iq_G_pos (c := x2 < 0) (σ1 := (24, [some (.ref 4), some (.int x1), some (.int x2)], [], (iq_sh l, I, J, X))) (fun _ => rfl) hc_ ?_
        refine iq_G_go (k := 1) (σ' := (25, [some (.ref 4), some (.int x1), some (.int x2)], [.int (-1 : Int32)], (iq_sh l, I, J, X))) (fun _ => rfl) ?_
        cases h
        exact iq_G_ret (fun _ => rfl)
      · refine iq_G_neg (c := x2 < 0) (σ1 := (16, [some (.ref 4), some (.int x1), some (.int x2)], [], (iq_sh l, I, J, X))) (fun _ => rfl) hc_ ?_
        refine iq_G_go (k := 3) (σ' := (21, [some (.ref 4), some (.int x1), some (.int x2)], [.int (I 4 2), .int x2], (iq_sh l, I, J, X))) (fun _ => rfl) ?_
        rcases iq_ite h with ⟨hc_, h⟩ | ⟨hc_, h⟩
        · refine iq_G_pos (c := x2 < (I 4 2)) (σ1 := (26, [some (.ref 4), some (.int x1), some (.int x2)], [], (iq_sh l, I, J, X))) (fun _ => rfl) hc_ ?_
          refine iq_G_go (k := 8) (σ' := (39, [some (.ref 4), some (.int x1), some (.int x2)], [.int x2, .ref 6, .int (x1 * (8 : Int32)), .ref 14], (iq_sh l, I, J, X))) (fun _ => rfl) ?_
          obtain ⟨hc_, h⟩ := iq_itn h
          refine iq_G_pos (c := iq_in x2 14) (σ1 := (40, [some (.ref 4), some (.int x1), some (.int x2)], [.int (I 6 (Int32.toNatClampNeg x2)), .int (x1 * (8 : Int32)), .ref 14], (iq_sh l, I, J, X))) (fun _ => rfl) hc_ ?_
          refine iq_G_go (k := 1) (σ' := (41, [some (.ref 4), some (.int x1), some (.int x2)], [.int ((x1 * (8 : Int32)) + (I 6 (Int32.toNatClampNeg x2))), .ref 14], (iq_sh l, I, J, X))) (fun _ => rfl) ?_
          obtain ⟨hc_, h⟩ := iq_itn h
          refine iq_G_pos (c := iq_in ((x1 * (8 : Int32)) + (I 6 (Int32.toNatClampNeg x2))) 80) (σ1 := (42, [some (.ref 4), some (.int x1), some (.int x2)], [.int (I 14 (Int32.toNatClampNeg ((x1 * (8 : Int32)) + (I 6 (Int32.toNatClampNeg x2)))))], (iq_sh l, I, J, X))) (fun _ => rfl) hc_ ?_
          cases h
          exact iq_G_ret (fun _ => rfl)
        · refine iq_G_neg (c := x2 < (I 4 2)) (σ1 := (24, [some (.ref 4), some (.int x1), some (.int x2)], [], (iq_sh l, I, J, X))) (fun _ => rfl) hc_ ?_
          refine iq_G_go (k := 1) (σ' := (25, [some (.ref 4), some (.int x1), some (.int x2)], [.int (-1 : Int32)], (iq_sh l, I, J, X))) (fun _ => rfl) ?_
          cases h
          exact iq_G_ret (fun _ => rfl)
set_option maxRecDepth 100000 in
theorem zW_fewestFrom_ok (l : Nat)  (x1 : Int32) (x2 : Int32) (I : iq_I) (J : iq_J) (X : iq_X) {q : Int32} (h : zW_fewestFrom x1 x2 I = some q) : iq_Cc 1 121 [.ref 72, .int x1, .int x2] (iq_sh l, I, J, X) (.inl (some (.int q)), (iq_sh l, I, J, X)) := by
  refine iq_Cc_of (L := [some (.ref 72), some (.int x1), some (.int x2)]) rfl rfl ?_
  unfold zW_fewestFrom at h
  refine iq_G_go (k := 1) (σ' := (1, [some (.ref 72), some (.int x1), some (.int x2)], [.int x1], (iq_sh l, I, J, X))) (fun _ => rfl) ?_
  rcases iq_ite h with ⟨hc_, h⟩ | ⟨hc_, h⟩
  · refine iq_G_pos (c := x1 < 0) (σ1 := (25, [some (.ref 72), some (.int x1), some (.int x2)], [], (iq_sh l, I, J, X))) (fun _ => rfl) hc_ ?_
    refine iq_G_go (k := 1) (σ' := (28, [some (.ref 72), some (.int x1), some (.int x2)], [.int (1000 : Int32)], (iq_sh l, I, J, X))) (fun _ => rfl) ?_
    cases h
    exact iq_G_ret (fun _ => rfl)
  · refine iq_G_neg (c := x1 < 0) (σ1 := (4, [some (.ref 72), some (.int x1), some (.int x2)], [], (iq_sh l, I, J, X))) (fun _ => rfl) hc_ ?_
    refine iq_G_go (k := 2) (σ' := (7, [some (.ref 72), some (.int x1), some (.int x2)], [.int (40 : Int32), .int x1], (iq_sh l, I, J, X))) (fun _ => rfl) ?_
    rcases iq_ite h with ⟨hc_, h⟩ | ⟨hc_, h⟩
    · refine iq_G_pos (c := (40 : Int32) < x1) (σ1 := (25, [some (.ref 72), some (.int x1), some (.int x2)], [], (iq_sh l, I, J, X))) (fun _ => rfl) hc_ ?_
      refine iq_G_go (k := 1) (σ' := (28, [some (.ref 72), some (.int x1), some (.int x2)], [.int (1000 : Int32)], (iq_sh l, I, J, X))) (fun _ => rfl) ?_
      cases h
      exact iq_G_ret (fun _ => rfl)
    · refine iq_G_neg (c := (40 : Int32) < x1) (σ1 := (10, [some (.ref 72), some (.int x1), some (.int x2)], [], (iq_sh l, I, J, X))) (fun _ => rfl) hc_ ?_
      refine iq_G_go (k := 1) (σ' := (11, [some (.ref 72), some (.int x1), some (.int x2)], [.int x2], (iq_sh l, I, J, X))) (fun _ => rfl) ?_
      rcases iq_ite h with ⟨hc_, h⟩ | ⟨hc_, h⟩
      · refine iq_G_pos (c := x2 < 0) (σ1 := (25, [some (.ref 72), some (.int x1), some (.int x2)], [], (iq_sh l, I, J, X))) (fun _ => rfl) hc_ ?_
        refine iq_G_go (k := 1) (σ' := (28, [some (.ref 72), some (.int x1), some (.int x2)], [.int (1000 : Int32)], (iq_sh l, I, J, X))) (fun _ => rfl) ?_
        cases h
        exact iq_G_ret (fun _ => rfl)
      · refine iq_G_neg (c := x2 < 0) (σ1 := (14, [some (.ref 72), some (.int x1), some (.int x2)], [], (iq_sh l, I, J, X))) (fun _ => rfl) hc_ ?_
        refine iq_G_go (k := 4) (σ' := (22, [some (.ref 72), some (.int x1), some (.int x2)], [.int (I 4 0), .int x2], (iq_sh l, I, J, X))) (fun _ => rfl) ?_
        rcases iq_ite h with ⟨hc_, h⟩ | ⟨hc_, h⟩
        · refine iq_G_pos (c := x2 < (I 4 0)) (σ1 := (29, [some (.ref 72), some (.int x1), some (.int x2)], [], (iq_sh l, I, J, X))) (fun _ => rfl) hc_ ?_
          refine iq_G_go (k := 7) (σ' := (39, [some (.ref 72), some (.int x1), some (.int x2)], [.int ((x1 * (10 : Int32)) + x2), .ref 75], (iq_sh l, I, J, X))) (fun _ => rfl) ?_
          obtain ⟨hc_, h⟩ := iq_itn h
          refine iq_G_pos (c := iq_in ((x1 * (10 : Int32)) + x2) 410) (σ1 := (40, [some (.ref 72), some (.int x1), some (.int x2)], [.int (I 75 (Int32.toNatClampNeg ((x1 * (10 : Int32)) + x2)))], (iq_sh l, I, J, X))) (fun _ => rfl) hc_ ?_
          cases h
          exact iq_G_ret (fun _ => rfl)
        · refine iq_G_neg (c := x2 < (I 4 0)) (σ1 := (25, [some (.ref 72), some (.int x1), some (.int x2)], [], (iq_sh l, I, J, X))) (fun _ => rfl) hc_ ?_
          refine iq_G_go (k := 1) (σ' := (28, [some (.ref 72), some (.int x1), some (.int x2)], [.int (1000 : Int32)], (iq_sh l, I, J, X))) (fun _ => rfl) ?_
          cases h
          exact iq_G_ret (fun _ => rfl)
set_option maxRecDepth 100000 in
theorem zW_fewestBy_16_ok (l : Nat)  (x3 : Int32) (x4 : Int32) (x5 : Int32) (s0 : Int32) (I : iq_I) (J : iq_J) (X : iq_X)  {q : Int32} (h : zW_fewestBy_16 x3 x4 x5 s0 I = some q)  : iq_Gg 1 120 (16, [some (.ref 72), none, none, some (.int x3), some (.int x4), some (.int x5), none], [.int s0], (iq_sh l, I, J, X)) (.inl (some (.int q)), (iq_sh l, I, J, X)) := by
  unfold zW_fewestBy_16 at h
  refine iq_G_go (k := 10) (σ' := (32, [some (.ref 72), none, none, some (.int x3), some (.int x4), some (.int x5), some (.int s0)], [.int x5, .int x4, .ref 4, .int (x3 + (1 : Int32)), .ref 72, .int s0], (iq_sh l, I, J, X))) (fun _ => rfl) ?_
  obtain ⟨q2, hq2, h⟩ := iq_bnd h
  refine iq_G_call (σ' := (35, [some (.ref 72), none, none, some (.int x3), some (.int x4), some (.int x5), some (.int s0)], [.int q2, .int (x3 + (1 : Int32)), .ref 72, .int s0], (iq_sh l, I, J, X))) (fun _ => rfl) (zU_leadsTo_4_ok l x4 x5 I J X hq2) rfl rfl ?_
  obtain ⟨q3, hq3, h⟩ := iq_bnd h
  refine iq_G_call (σ' := (38, [some (.ref 72), none, none, some (.int x3), some (.int x4), some (.int x5), some (.int s0)], [.int q3, .int s0], (iq_sh l, I, J, X))) (fun _ => rfl) (zW_fewestFrom_ok l (x3 + (1 : Int32)) q2 I J X hq3) rfl rfl ?_
  refine iq_G_go (k := 1) (σ' := (39, [some (.ref 72), none, none, some (.int x3), some (.int x4), some (.int x5), some (.int s0)], [.int (s0 + q3)], (iq_sh l, I, J, X))) (fun _ => rfl) ?_
  cases h
  exact iq_G_ret (fun _ => rfl)
set_option maxRecDepth 100000 in
theorem zW_fewestBy_ok (l : Nat)  (x2 : Int32) (x3 : Int32) (x4 : Int32) (x5 : Int32) (I : iq_I) (J : iq_J) (X : iq_X) {q : Int32} (h : zW_fewestBy x2 x3 x4 x5 I = some q) : iq_Cc 2 120 [.ref 72, .ref 16, .int x2, .int x3, .int x4, .int x5] (iq_sh l, I, J, X) (.inl (some (.int q)), (iq_sh l, I, J, X)) := by
  refine iq_Cc_of (L := [some (.ref 72), some (.ref 16), some (.int x2), some (.int x3), some (.int x4), some (.int x5), none]) rfl rfl ?_
  unfold zW_fewestBy at h
  refine iq_G_go (k := 3) (σ' := (3, [some (.ref 72), some (.ref 16), some (.int x2), some (.int x3), some (.int x4), some (.int x5), none], [.int x3, .int x2, .ref 16], (iq_sh l, I, J, X))) (fun _ => rfl) ?_
  obtain ⟨q1, hq1, h⟩ := iq_bnd h
  refine iq_G_call (σ' := (6, [some (.ref 72), some (.ref 16), some (.int x2), some (.int x3), some (.int x4), some (.int x5), none], [.int q1], (iq_sh l, I, J, X))) (fun _ => rfl) (zG_wordAt_16_ok l x2 x3 I J X hq1) rfl rfl ?_
  refine iq_G_go (k := 1) (σ' := (8, [some (.ref 72), some (.ref 16), some (.int x2), some (.int x3), some (.int x4), some (.int x5), none], [.int x5, .int q1], (iq_sh l, I, J, X))) (fun _ => rfl) ?_
  rcases iq_ite h with ⟨hc_, h⟩ | ⟨hc_, h⟩
  · refine iq_G_pos (c := ¬ q1 = x5) (σ1 := (15, [some (.ref 72), some (.ref 16), some (.int x2), some (.int x3), some (.int x4), some (.int x5), none], [], (iq_sh l, I, J, X))) (fun _ => rfl) hc_ ?_
    refine iq_G_go (k := 1) (σ' := (16, [some (.ref 72), some (.ref 16), some (.int x2), some (.int x3), some (.int x4), some (.int x5), none], [.int (1 : Int32)], (iq_sh l, I, J, X))) (fun _ => rfl) ?_
    exact iq_G_fg (L := [some (.ref 72), none, none, some (.int x3), some (.int x4), some (.int x5), none]) (And.intro rfl (And.intro rfl (And.intro rfl (And.intro rfl trivial)))) (zW_fewestBy_16_ok l x3 x4 x5 (1 : Int32) I J X  h )
  · refine iq_G_neg (c := ¬ q1 = x5) (σ1 := (11, [some (.ref 72), some (.ref 16), some (.int x2), some (.int x3), some (.int x4), some (.int x5), none], [], (iq_sh l, I, J, X))) (fun _ => rfl) hc_ ?_
    refine iq_G_go (k := 2) (σ' := (16, [some (.ref 72), some (.ref 16), some (.int x2), some (.int x3), some (.int x4), some (.int x5), none], [.int (0 : Int32)], (iq_sh l, I, J, X))) (fun _ => rfl) ?_
    exact iq_G_fg (L := [some (.ref 72), none, none, some (.int x3), some (.int x4), some (.int x5), none]) (And.intro rfl (And.intro rfl (And.intro rfl (And.intro rfl trivial)))) (zW_fewestBy_16_ok l x3 x4 x5 (0 : Int32) I J X  h )
set_option maxRecDepth 100000 in
theorem zW_fewestAt_l8_bok (l : Nat)  (x2 : Int32) (x3 : Int32) (x4 : Int32) (I : iq_I) (J : iq_J) (X : iq_X) (x5 : Int32) (x6 : Int32)  {q : (Int32 × Int32) ⊕ (Int32)} (h : zW_fewestAt_l8_b x2 x3 x4 I x5 x6 = some q) (r : iq_R × iq_M) (hc : ∀ v, q = .inl v → iq_Gg 2 119 (8, [some (.ref 72), some (.ref 16), some (.int x2), some (.int x3), some (.int x4), some (.int v.1), some (.int v.2)], [], (iq_sh l, I, J, X)) r) (hx : ∀ w, q = .inr w → iq_Gg 2 119 (44, [none, none, none, none, none, some (.int w), none], [], (iq_sh l, I, J, X)) r) : iq_Gg 2 119 (8, [some (.ref 72), some (.ref 16), some (.int x2), some (.int x3), some (.int x4), some (.int x5), some (.int x6)], [], (iq_sh l, I, J, X)) r := by
  unfold zW_fewestAt_l8_b at h
  refine iq_G_go (k := 4) (σ' := (17, [some (.ref 72), some (.ref 16), some (.int x2), some (.int x3), some (.int x4), some (.int x5), some (.int x6)], [.int (I 4 2), .int x6], (iq_sh l, I, J, X))) (fun _ => rfl) ?_
  rcases iq_ite h with ⟨hc_, h⟩ | ⟨hc_, h⟩
  · refine iq_G_pos (c := (I 4 2) ≤ x6) (σ1 := (44, [some (.ref 72), some (.ref 16), some (.int x2), some (.int x3), some (.int x4), some (.int x5), some (.int x6)], [], (iq_sh l, I, J, X))) (fun _ => rfl) hc_ ?_
    cases h
    exact iq_G_fg (L := [none, none, none, none, none, some (.int x5), none]) (And.intro rfl trivial) (hx x5 rfl)
  · refine iq_G_neg (c := (I 4 2) ≤ x6) (σ1 := (20, [some (.ref 72), some (.ref 16), some (.int x2), some (.int x3), some (.int x4), some (.int x5), some (.int x6)], [], (iq_sh l, I, J, X))) (fun _ => rfl) hc_ ?_
    refine iq_G_go (k := 7) (σ' := (30, [some (.ref 72), some (.ref 16), some (.int x2), some (.int x3), some (.int x4), some (.int x5), some (.int x6)], [.int x6, .int x4, .int x3, .int x2, .ref 16, .ref 72, .int x5], (iq_sh l, I, J, X))) (fun _ => rfl) ?_
    obtain ⟨q1, hq1, h⟩ := iq_bnd h
    refine iq_G_call (σ' := (33, [some (.ref 72), some (.ref 16), some (.int x2), some (.int x3), some (.int x4), some (.int x5), some (.int x6)], [.int q1, .int x5], (iq_sh l, I, J, X))) (fun _ => rfl) (zW_fewestBy_ok l x2 x3 x4 x6 I J X hq1) rfl rfl ?_
    refine iq_G_go (k := 4) (σ' := (8, [some (.ref 72), some (.ref 16), some (.int x2), some (.int x3), some (.int x4), some (.int (ir_min x5 q1)), some (.int (x6 + (1 : Int32)))], [], (iq_sh l, I, J, X))) (fun _ => rfl) ?_
    cases h
    exact iq_G_fg (L := [some (.ref 72), some (.ref 16), some (.int x2), some (.int x3), some (.int x4), some (.int (ir_min x5 q1)), some (.int (x6 + (1 : Int32)))]) (And.intro rfl (And.intro rfl (And.intro rfl (And.intro rfl (And.intro rfl (And.intro rfl (And.intro rfl trivial))))))) (hc ((ir_min x5 q1), (x6 + (1 : Int32))) rfl)
set_option maxRecDepth 100000 in
theorem zW_fewestAt_l8_ok (l : Nat)  (x2 : Int32) (x3 : Int32) (x4 : Int32) (I : iq_I) (J : iq_J) (X : iq_X) {n : Nat} {v : Int32 × Int32} {w : Int32} (h : zW_fewestAt_l8 x2 x3 x4 I n v = some w) (r : iq_R × iq_M) (hq : iq_Gg 2 119 (44, [none, none, none, none, none, some (.int w), none], [], (iq_sh l, I, J, X)) r) : iq_Gg 2 119 (8, [some (.ref 72), some (.ref 16), some (.int x2), some (.int x3), some (.int x4), some (.int v.1), some (.int v.2)], [], (iq_sh l, I, J, X)) r :=
  iq_lp_ok (σ := fun v => (8, [some (.ref 72), some (.ref 16), some (.int x2), some (.int x3), some (.int x4), some (.int v.1), some (.int v.2)], [], (iq_sh l, I, J, X))) (Q := fun w r => iq_Gg 2 119 (44, [none, none, none, none, none, some (.int w), none], [], (iq_sh l, I, J, X)) r) (fun v q hv r h1 h2 => zW_fewestAt_l8_bok l x2 x3 x4 I J X v.1 v.2 hv r h1 h2) h r hq
set_option maxRecDepth 100000 in
theorem zW_fewestAt_ok (l : Nat)  (x2 : Int32) (x3 : Int32) (x4 : Int32) (I : iq_I) (J : iq_J) (X : iq_X) {q : Int32} (h : zW_fewestAt x2 x3 x4 I = some q) : iq_Cc 3 119 [.ref 72, .ref 16, .int x2, .int x3, .int x4] (iq_sh l, I, J, X) (.inl (some (.int q)), (iq_sh l, I, J, X)) := by
  refine iq_Cc_of (L := [some (.ref 72), some (.ref 16), some (.int x2), some (.int x3), some (.int x4), none, none]) rfl rfl ?_
  unfold zW_fewestAt at h
  refine iq_G_go (k := 4) (σ' := (8, [some (.ref 72), some (.ref 16), some (.int x2), some (.int x3), some (.int x4), some (.int (1000 : Int32)), some (.int (0 : Int32))], [], (iq_sh l, I, J, X))) (fun _ => rfl) ?_
  obtain ⟨w2, hw2, h⟩ := iq_bnd h
  refine iq_G_fg (L := [some (.ref 72), some (.ref 16), some (.int x2), some (.int x3), some (.int x4), some (.int (1000 : Int32)), some (.int (0 : Int32))]) (And.intro rfl (And.intro rfl (And.intro rfl (And.intro rfl (And.intro rfl (And.intro rfl (And.intro rfl trivial))))))) ?_
  refine zW_fewestAt_l8_ok l x2 x3 x4 I J X hw2 _ ?_
  show iq_Gg 2 119 (44, [none, none, none, none, none, some (.int w2), none], [], (iq_sh l, I, J, X)) _
  refine iq_G_go (k := 1) (σ' := (46, [none, none, none, none, none, some (.int w2), none], [.int w2], (iq_sh l, I, J, X))) (fun _ => rfl) ?_
  cases h
  exact iq_G_ret (fun _ => rfl)
set_option maxRecDepth 100000 in
theorem zG_beginOf_16_ok (l : Nat)  (x1 : Int32) (I : iq_I) (J : iq_J) (X : iq_X) {q : Int32} (h : zG_beginOf_16 x1 I = some q) : iq_Cc 1 8 [.ref 16, .int x1] (iq_sh l, I, J, X) (.inl (some (.int q)), (iq_sh l, I, J, X)) := by
  refine iq_Cc_of (L := [some (.ref 16), some (.int x1)]) rfl rfl ?_
  unfold zG_beginOf_16 at h
  refine iq_G_go (k := 1) (σ' := (1, [some (.ref 16), some (.int x1)], [.int x1], (iq_sh l, I, J, X))) (fun _ => rfl) ?_
  rcases iq_ite h with ⟨hc_, h⟩ | ⟨hc_, h⟩
  · refine iq_G_pos (c := x1 < 0) (σ1 := (12, [some (.ref 16), some (.int x1)], [], (iq_sh l, I, J, X))) (fun _ => rfl) hc_ ?_
    refine iq_G_go (k := 2) (σ' := (22, [some (.ref 16), some (.int x1)], [.int (-1 : Int32)], (iq_sh l, I, J, X))) (fun _ => rfl) ?_
    cases h
    exact iq_G_ret (fun _ => rfl)
  · refine iq_G_neg (c := x1 < 0) (σ1 := (4, [some (.ref 16), some (.int x1)], [], (iq_sh l, I, J, X))) (fun _ => rfl) hc_ ?_
    refine iq_G_go (k := 3) (σ' := (9, [some (.ref 16), some (.int x1)], [.int (I 16 0), .int x1], (iq_sh l, I, J, X))) (fun _ => rfl) ?_
    rcases iq_ite h with ⟨hc_, h⟩ | ⟨hc_, h⟩
    · refine iq_G_pos (c := x1 < (I 16 0)) (σ1 := (16, [some (.ref 16), some (.int x1)], [], (iq_sh l, I, J, X))) (fun _ => rfl) hc_ ?_
      refine iq_G_go (k := 3) (σ' := (21, [some (.ref 16), some (.int x1)], [.int x1, .ref 17], (iq_sh l, I, J, X))) (fun _ => rfl) ?_
      obtain ⟨hc_, h⟩ := iq_itn h
      refine iq_G_pos (c := iq_in x1 5) (σ1 := (22, [some (.ref 16), some (.int x1)], [.int (I 17 (Int32.toNatClampNeg x1))], (iq_sh l, I, J, X))) (fun _ => rfl) hc_ ?_
      cases h
      exact iq_G_ret (fun _ => rfl)
    · refine iq_G_neg (c := x1 < (I 16 0)) (σ1 := (12, [some (.ref 16), some (.int x1)], [], (iq_sh l, I, J, X))) (fun _ => rfl) hc_ ?_
      refine iq_G_go (k := 2) (σ' := (22, [some (.ref 16), some (.int x1)], [.int (-1 : Int32)], (iq_sh l, I, J, X))) (fun _ => rfl) ?_
      cases h
      exact iq_G_ret (fun _ => rfl)
set_option maxRecDepth 100000 in
theorem zW_fewestToMend_66_ok (l : Nat)  (x2 : Int32) (x3 : Int32) (x4 : Int32) (x5 : Int32) (s1 : Int32) (s2 : Int32) (I : iq_I) (J : iq_J) (X : iq_X)  {q : (Int32 × iq_I) ⊕ (iq_I)} (h : zW_fewestToMend_66 x2 x3 x4 x5 s1 s2 I = some q) (r : iq_R × iq_M) (hc : ∀ v, q = .inl v → iq_Gg 3 118 (22, [some (.ref 72), some (.ref 16), some (.int x2), some (.int x3), some (.int x4), some (.int v.1)], [], (iq_sh l, v.2, J, X)) r) (hx : ∀ w, q = .inr w → iq_Gg 3 118 (73, [some (.ref 72), some (.ref 16), some (.int x2), some (.int x3), some (.int x4), none], [], (iq_sh l, w, J, X)) r) : iq_Gg 3 118 (66, [some (.ref 72), some (.ref 16), some (.int x2), some (.int x3), some (.int x4), some (.int x5)], [.int s2, .int s1, .ref 75], (iq_sh l, I, J, X)) r := by
  unfold zW_fewestToMend_66 at h
  obtain ⟨hc_, h⟩ := iq_itn h
  refine iq_G_pos (c := iq_in s1 410) (σ1 := (67, [some (.ref 72), some (.ref 16), some (.int x2), some (.int x3), some (.int x4), some (.int x5)], [], (iq_sh l, (iq_upI I 75 (Int32.toNatClampNeg s1) s2), J, X))) (fun _ => rfl) hc_ ?_
  obtain ⟨I3, eI3, h⟩ := ir_letG h
  rw [← eI3]
  clear eI3
  refine iq_G_go (k := 2) (σ' := (22, [some (.ref 72), some (.ref 16), some (.int x2), some (.int x3), some (.int x4), some (.int (x5 + (1 : Int32)))], [], (iq_sh l, I3, J, X))) (fun _ => rfl) ?_
  cases h
  exact iq_G_fg (L := [some (.ref 72), some (.ref 16), some (.int x2), some (.int x3), some (.int x4), some (.int (x5 + (1 : Int32)))]) (And.intro rfl (And.intro rfl (And.intro rfl (And.intro rfl (And.intro rfl (And.intro rfl trivial)))))) (hc ((x5 + (1 : Int32)), I3) rfl)
set_option maxRecDepth 100000 in
theorem zW_fewestToMend_l22_bok (l : Nat)  (x2 : Int32) (x3 : Int32) (x4 : Int32) (J : iq_J) (X : iq_X) (x5 : Int32) (I : iq_I) {q : (Int32 × iq_I) ⊕ (iq_I)} (h : zW_fewestToMend_l22_b x2 x3 x4 x5 I = some q) (r : iq_R × iq_M) (hc : ∀ v, q = .inl v → iq_Gg 3 118 (22, [some (.ref 72), some (.ref 16), some (.int x2), some (.int x3), some (.int x4), some (.int v.1)], [], (iq_sh l, v.2, J, X)) r) (hx : ∀ w, q = .inr w → iq_Gg 3 118 (73, [some (.ref 72), some (.ref 16), some (.int x2), some (.int x3), some (.int x4), none], [], (iq_sh l, w, J, X)) r) : iq_Gg 3 118 (22, [some (.ref 72), some (.ref 16), some (.int x2), some (.int x3), some (.int x4), some (.int x5)], [], (iq_sh l, I, J, X)) r := by
  unfold zW_fewestToMend_l22_b at h
  refine iq_G_go (k := 4) (σ' := (31, [some (.ref 72), some (.ref 16), some (.int x2), some (.int x3), some (.int x4), some (.int x5)], [.int (I 4 0), .int x5], (iq_sh l, I, J, X))) (fun _ => rfl) ?_
  rcases iq_ite h with ⟨hc_, h⟩ | ⟨hc_, h⟩
  · refine iq_G_pos (c := (I 4 0) ≤ x5) (σ1 := (73, [some (.ref 72), some (.ref 16), some (.int x2), some (.int x3), some (.int x4), some (.int x5)], [], (iq_sh l, I, J, X))) (fun _ => rfl) hc_ ?_
    cases h
    exact iq_G_fg (L := [some (.ref 72), some (.ref 16), some (.int x2), some (.int x3), some (.int x4), none]) (And.intro rfl (And.intro rfl (And.intro rfl (And.intro rfl (And.intro rfl trivial))))) (hx I rfl)
  · refine iq_G_neg (c := (I 4 0) ≤ x5) (σ1 := (34, [some (.ref 72), some (.ref 16), some (.int x2), some (.int x3), some (.int x4), some (.int x5)], [], (iq_sh l, I, J, X))) (fun _ => rfl) hc_ ?_
    refine iq_G_go (k := 9) (σ' := (49, [some (.ref 72), some (.ref 16), some (.int x2), some (.int x3), some (.int x4), some (.int x5)], [.int x3, .int x4, .int ((x4 * (10 : Int32)) + x5), .ref 75], (iq_sh l, I, J, X))) (fun _ => rfl) ?_
    rcases iq_ite h with ⟨hc_, h⟩ | ⟨hc_, h⟩
    · refine iq_G_pos (c := ¬ x4 = x3) (σ1 := (56, [some (.ref 72), some (.ref 16), some (.int x2), some (.int x3), some (.int x4), some (.int x5)], [.int ((x4 * (10 : Int32)) + x5), .ref 75], (iq_sh l, I, J, X))) (fun _ => rfl) hc_ ?_
      refine iq_G_go (k := 5) (σ' := (63, [some (.ref 72), some (.ref 16), some (.int x2), some (.int x3), some (.int x4), some (.int x5)], [.int x5, .int x4, .int x2, .ref 16, .ref 72, .int ((x4 * (10 : Int32)) + x5), .ref 75], (iq_sh l, I, J, X))) (fun _ => rfl) ?_
      obtain ⟨q2, hq2, h⟩ := iq_bnd h
      refine iq_G_call (σ' := (66, [some (.ref 72), some (.ref 16), some (.int x2), some (.int x3), some (.int x4), some (.int x5)], [.int q2, .int ((x4 * (10 : Int32)) + x5), .ref 75], (iq_sh l, I, J, X))) (fun _ => rfl) (zW_fewestAt_ok l x2 x4 x5 I J X hq2) rfl rfl ?_
      exact iq_G_fg (L := [some (.ref 72), some (.ref 16), some (.int x2), some (.int x3), some (.int x4), some (.int x5)]) (And.intro rfl (And.intro rfl (And.intro rfl (And.intro rfl (And.intro rfl (And.intro rfl trivial)))))) (zW_fewestToMend_66_ok l x2 x3 x4 x5 ((x4 * (10 : Int32)) + x5) q2 I J X  h r hc hx)
    · refine iq_G_neg (c := ¬ x4 = x3) (σ1 := (52, [some (.ref 72), some (.ref 16), some (.int x2), some (.int x3), some (.int x4), some (.int x5)], [.int ((x4 * (10 : Int32)) + x5), .ref 75], (iq_sh l, I, J, X))) (fun _ => rfl) hc_ ?_
      refine iq_G_go (k := 2) (σ' := (66, [some (.ref 72), some (.ref 16), some (.int x2), some (.int x3), some (.int x4), some (.int x5)], [.int (0 : Int32), .int ((x4 * (10 : Int32)) + x5), .ref 75], (iq_sh l, I, J, X))) (fun _ => rfl) ?_
      exact iq_G_fg (L := [some (.ref 72), some (.ref 16), some (.int x2), some (.int x3), some (.int x4), some (.int x5)]) (And.intro rfl (And.intro rfl (And.intro rfl (And.intro rfl (And.intro rfl (And.intro rfl trivial)))))) (zW_fewestToMend_66_ok l x2 x3 x4 x5 ((x4 * (10 : Int32)) + x5) (0 : Int32) I J X  h r hc hx)
set_option maxRecDepth 100000 in
theorem zW_fewestToMend_l22_ok (l : Nat)  (x2 : Int32) (x3 : Int32) (x4 : Int32) (J : iq_J) (X : iq_X) {n : Nat} {v : Int32 × iq_I} {w : iq_I} (h : zW_fewestToMend_l22 x2 x3 x4 n v = some w) (r : iq_R × iq_M) (hq : iq_Gg 3 118 (73, [some (.ref 72), some (.ref 16), some (.int x2), some (.int x3), some (.int x4), none], [], (iq_sh l, w, J, X)) r) : iq_Gg 3 118 (22, [some (.ref 72), some (.ref 16), some (.int x2), some (.int x3), some (.int x4), some (.int v.1)], [], (iq_sh l, v.2, J, X)) r :=
  iq_lp_ok (σ := fun v => (22, [some (.ref 72), some (.ref 16), some (.int x2), some (.int x3), some (.int x4), some (.int v.1)], [], (iq_sh l, v.2, J, X))) (Q := fun w r => iq_Gg 3 118 (73, [some (.ref 72), some (.ref 16), some (.int x2), some (.int x3), some (.int x4), none], [], (iq_sh l, w, J, X)) r) (fun v q hv r h1 h2 => zW_fewestToMend_l22_bok l x2 x3 x4 J X v.1 v.2 hv r h1 h2) h r hq
set_option maxRecDepth 100000 in
theorem zW_fewestToMend_l14_bok (l : Nat)  (x2 : Int32) (x3 : Int32) (J : iq_J) (X : iq_X) (x4 : Int32) (I : iq_I) {q : (Int32 × iq_I) ⊕ (iq_I)} (h : zW_fewestToMend_l14_b x2 x3 x4 I = some q) (r : iq_R × iq_M) (hc : ∀ v, q = .inl v → iq_Gg 3 118 (14, [some (.ref 72), some (.ref 16), some (.int x2), some (.int x3), some (.int v.1), none], [], (iq_sh l, v.2, J, X)) r) (hx : ∀ w, q = .inr w → iq_Gg 3 118 (79, [some (.ref 72), some (.ref 16), some (.int x2), none, none, none], [], (iq_sh l, w, J, X)) r) : iq_Gg 3 118 (14, [some (.ref 72), some (.ref 16), some (.int x2), some (.int x3), some (.int x4), none], [], (iq_sh l, I, J, X)) r := by
  unfold zW_fewestToMend_l14_b at h
  refine iq_G_go (k := 1) (σ' := (16, [some (.ref 72), some (.ref 16), some (.int x2), some (.int x3), some (.int x4), none], [.int x4], (iq_sh l, I, J, X))) (fun _ => rfl) ?_
  rcases iq_ite h with ⟨hc_, h⟩ | ⟨hc_, h⟩
  · refine iq_G_pos (c := x4 < 0) (σ1 := (79, [some (.ref 72), some (.ref 16), some (.int x2), some (.int x3), some (.int x4), none], [], (iq_sh l, I, J, X))) (fun _ => rfl) hc_ ?_
    cases h
    exact iq_G_fg (L := [some (.ref 72), some (.ref 16), some (.int x2), none, none, none]) (And.intro rfl (And.intro rfl (And.intro rfl trivial))) (hx I rfl)
  · refine iq_G_neg (c := x4 < 0) (σ1 := (19, [some (.ref 72), some (.ref 16), some (.int x2), some (.int x3), some (.int x4), none], [], (iq_sh l, I, J, X))) (fun _ => rfl) hc_ ?_
    refine iq_G_go (k := 2) (σ' := (22, [some (.ref 72), some (.ref 16), some (.int x2), some (.int x3), some (.int x4), some (.int (0 : Int32))], [], (iq_sh l, I, J, X))) (fun _ => rfl) ?_
    obtain ⟨w4, hw4, h⟩ := iq_bnd h
    refine iq_G_fg (L := [some (.ref 72), some (.ref 16), some (.int x2), some (.int x3), some (.int x4), some (.int (0 : Int32))]) (And.intro rfl (And.intro rfl (And.intro rfl (And.intro rfl (And.intro rfl (And.intro rfl trivial)))))) ?_
    refine zW_fewestToMend_l22_ok l x2 x3 x4 J X hw4 _ ?_
    show iq_Gg 3 118 (73, [some (.ref 72), some (.ref 16), some (.int x2), some (.int x3), some (.int x4), none], [], (iq_sh l, w4, J, X)) _
    refine iq_G_go (k := 2) (σ' := (14, [some (.ref 72), some (.ref 16), some (.int x2), some (.int x3), some (.int (x4 + (-1 : Int32))), none], [], (iq_sh l, w4, J, X))) (fun _ => rfl) ?_
    cases h
    exact iq_G_fg (L := [some (.ref 72), some (.ref 16), some (.int x2), some (.int x3), some (.int (x4 + (-1 : Int32))), none]) (And.intro rfl (And.intro rfl (And.intro rfl (And.intro rfl (And.intro rfl trivial))))) (hc ((x4 + (-1 : Int32)), w4) rfl)
set_option maxRecDepth 100000 in
theorem zW_fewestToMend_l14_ok (l : Nat)  (x2 : Int32) (x3 : Int32) (J : iq_J) (X : iq_X) {n : Nat} {v : Int32 × iq_I} {w : iq_I} (h : zW_fewestToMend_l14 x2 x3 n v = some w) (r : iq_R × iq_M) (hq : iq_Gg 3 118 (79, [some (.ref 72), some (.ref 16), some (.int x2), none, none, none], [], (iq_sh l, w, J, X)) r) : iq_Gg 3 118 (14, [some (.ref 72), some (.ref 16), some (.int x2), some (.int x3), some (.int v.1), none], [], (iq_sh l, v.2, J, X)) r :=
  iq_lp_ok (σ := fun v => (14, [some (.ref 72), some (.ref 16), some (.int x2), some (.int x3), some (.int v.1), none], [], (iq_sh l, v.2, J, X))) (Q := fun w r => iq_Gg 3 118 (79, [some (.ref 72), some (.ref 16), some (.int x2), none, none, none], [], (iq_sh l, w, J, X)) r) (fun v q hv r h1 h2 => zW_fewestToMend_l14_bok l x2 x3 J X v.1 v.2 hv r h1 h2) h r hq
set_option maxRecDepth 100000 in
theorem zW_fewestToMend_ok (l : Nat)  (x2 : Int32) (I : iq_I) (J : iq_J) (X : iq_X) {q : Int32 × iq_I} (h : zW_fewestToMend x2 I = some q) : iq_Cc 4 118 [.ref 72, .ref 16, .int x2] (iq_sh l, I, J, X) (.inl (some (.int q.1)), (iq_sh l, q.2, J, X)) := by
  refine iq_Cc_of (L := [some (.ref 72), some (.ref 16), some (.int x2), none, none, none]) rfl rfl ?_
  unfold zW_fewestToMend at h
  refine iq_G_go (k := 2) (σ' := (2, [some (.ref 72), some (.ref 16), some (.int x2), none, none, none], [.int x2, .ref 16], (iq_sh l, I, J, X))) (fun _ => rfl) ?_
  obtain ⟨q1, hq1, h⟩ := iq_bnd h
  refine iq_G_call (σ' := (5, [some (.ref 72), some (.ref 16), some (.int x2), none, none, none], [.int q1], (iq_sh l, I, J, X))) (fun _ => rfl) (zG_lengthOf_16_ok l x2 I J X hq1) rfl rfl ?_
  refine iq_G_go (k := 5) (σ' := (14, [some (.ref 72), some (.ref 16), some (.int x2), some (.int (ir_min q1 (40 : Int32))), some (.int (ir_min q1 (40 : Int32))), none], [], (iq_sh l, I, J, X))) (fun _ => rfl) ?_
  obtain ⟨w5, hw5, h⟩ := iq_bnd h
  refine iq_G_fg (L := [some (.ref 72), some (.ref 16), some (.int x2), some (.int (ir_min q1 (40 : Int32))), some (.int (ir_min q1 (40 : Int32))), none]) (And.intro rfl (And.intro rfl (And.intro rfl (And.intro rfl (And.intro rfl trivial))))) ?_
  refine zW_fewestToMend_l14_ok l x2 (ir_min q1 (40 : Int32)) J X hw5 _ ?_
  show iq_Gg 3 118 (79, [some (.ref 72), some (.ref 16), some (.int x2), none, none, none], [], (iq_sh l, w5, J, X)) _
  refine iq_G_go (k := 4) (σ' := (83, [some (.ref 72), some (.ref 16), some (.int x2), none, none, none], [.int x2, .ref 16, .int (0 : Int32), .ref 72], (iq_sh l, w5, J, X))) (fun _ => rfl) ?_
  obtain ⟨q6, hq6, h⟩ := iq_bnd h
  refine iq_G_call (σ' := (86, [some (.ref 72), some (.ref 16), some (.int x2), none, none, none], [.int q6, .int (0 : Int32), .ref 72], (iq_sh l, w5, J, X))) (fun _ => rfl) (zG_beginOf_16_ok l x2 w5 J X hq6) rfl rfl ?_
  obtain ⟨q7, hq7, h⟩ := iq_bnd h
  refine iq_G_call (σ' := (89, [some (.ref 72), some (.ref 16), some (.int x2), none, none, none], [.int q7], (iq_sh l, w5, J, X))) (fun _ => rfl) (zW_fewestFrom_ok l (0 : Int32) q6 w5 J X hq7) rfl rfl ?_
  refine iq_G_go (k := 3) (σ' := (96, [some (.ref 72), some (.ref 16), some (.int x2), none, some (.int q7), none], [.int (1000 : Int32), .int q7], (iq_sh l, w5, J, X))) (fun _ => rfl) ?_
  rcases iq_ite h with ⟨hc_, h⟩ | ⟨hc_, h⟩
  · refine iq_G_pos (c := q7 < (1000 : Int32)) (σ1 := (103, [some (.ref 72), some (.ref 16), some (.int x2), none, some (.int q7), none], [], (iq_sh l, w5, J, X))) (fun _ => rfl) hc_ ?_
    refine iq_G_go (k := 1) (σ' := (105, [some (.ref 72), some (.ref 16), some (.int x2), none, some (.int q7), none], [.int q7], (iq_sh l, w5, J, X))) (fun _ => rfl) ?_
    cases h
    exact iq_G_ret (fun _ => rfl)
  · refine iq_G_neg (c := q7 < (1000 : Int32)) (σ1 := (99, [some (.ref 72), some (.ref 16), some (.int x2), none, some (.int q7), none], [], (iq_sh l, w5, J, X))) (fun _ => rfl) hc_ ?_
    refine iq_G_go (k := 2) (σ' := (105, [some (.ref 72), some (.ref 16), some (.int x2), none, some (.int q7), none], [.int (-1 : Int32)], (iq_sh l, w5, J, X))) (fun _ => rfl) ?_
    cases h
    exact iq_G_ret (fun _ => rfl)
set_option maxRecDepth 100000 in
theorem zO_needPlace_17_ok (l : Nat)   (I : iq_I) (J : iq_J) (X : iq_X)  {q : (Unit ⊕ Nat) × iq_X} (h : zO_needPlace_17 I X = some q)  : iq_Gg 0 196 (17, [none, none, none], [], (iq_sh l, I, J, X)) ((ir_Rv q.1), (iq_sh l, I, J, q.2)) := by
  unfold zO_needPlace_17 at h
  cases h
  exact iq_G_ret (fun _ => rfl)
set_option maxRecDepth 100000 in
theorem zO_needPlace_ok (l : Nat)  (x1 : Int32) (x2 : Int32) (I : iq_I) (J : iq_J) (X : iq_X) {q : (Unit ⊕ Nat) × iq_X} (h : zO_needPlace x1 x2 I X = some q) : iq_Cc 1 196 [.ref 1, .int x1, .int x2] (iq_sh l, I, J, X) ((ir_Rv q.1), (iq_sh l, I, J, q.2)) := by
  refine iq_Cc_of (L := [some (.ref 1), some (.int x1), some (.int x2)]) rfl rfl ?_
  unfold zO_needPlace at h
  refine iq_G_go (k := 1) (σ' := (1, [some (.ref 1), some (.int x1), some (.int x2)], [.int x2], (iq_sh l, I, J, X))) (fun _ => rfl) ?_
  rcases iq_ite h with ⟨hc_, h⟩ | ⟨hc_, h⟩
  · refine iq_G_pos (c := x2 < 0) (σ1 := (17, [some (.ref 1), some (.int x1), some (.int x2)], [], (iq_sh l, I, J, X))) (fun _ => rfl) hc_ ?_
    exact iq_G_fg (L := [none, none, none]) trivial (zO_needPlace_17_ok l I J X  h )
  · refine iq_G_neg (c := x2 < 0) (σ1 := (4, [some (.ref 1), some (.int x1), some (.int x2)], [], (iq_sh l, I, J, X))) (fun _ => rfl) hc_ ?_
    refine iq_G_go (k := 5) (σ' := (13, [some (.ref 1), some (.int x1), some (.int x2)], [.int x1, .ref 18, .int x2], (iq_sh l, I, J, X))) (fun _ => rfl) ?_
    obtain ⟨hc_, h⟩ := iq_itn h
    refine iq_G_pos (c := iq_in x1 5) (σ1 := (14, [some (.ref 1), some (.int x1), some (.int x2)], [.int (I 18 (Int32.toNatClampNeg x1)), .int x2], (iq_sh l, I, J, X))) (fun _ => rfl) hc_ ?_
    rcases iq_ite h with ⟨hc_, h⟩ | ⟨hc_, h⟩
    · refine iq_G_pos (c := x2 < (I 18 (Int32.toNatClampNeg x1))) (σ1 := (28, [some (.ref 1), some (.int x1), some (.int x2)], [], (iq_sh l, I, J, X))) (fun _ => rfl) hc_ ?_
      cases h
      exact iq_G_ret (fun _ => rfl)
    · refine iq_G_neg (c := x2 < (I 18 (Int32.toNatClampNeg x1))) (σ1 := (17, [some (.ref 1), some (.int x1), some (.int x2)], [], (iq_sh l, I, J, X))) (fun _ => rfl) hc_ ?_
      exact iq_G_fg (L := [none, none, none]) trivial (zO_needPlace_17_ok l I J X  h )
set_option maxRecDepth 100000 in
theorem zW_firstMending_l12_bok (l : Nat)  (x2 : Int32) (x3 : Int32) (x4 : Int32) (x5 : Int32) (I : iq_I) (J : iq_J) (X : iq_X) (x6 : Int32)  {q : (Int32) ⊕ ((Unit) ⊕ (Int32))} (h : zW_firstMending_l12_b x2 x3 x4 x5 I x6 = some q) (r : iq_R × iq_M) (hc : ∀ v, q = .inl v → iq_Gg 2 123 (12, [some (.ref 72), some (.ref 16), some (.int x2), some (.int x3), some (.int x4), some (.int x5), some (.int v)], [], (iq_sh l, I, J, X)) r) (hx : ∀ w, q = .inr w → (∀ a, w = .inl a → iq_Gg 2 123 (49, [none, none, none, none, none, none, none], [], (iq_sh l, I, J, X)) r) ∧ (∀ b, w = .inr b → r = (.inl (some (.int b)), (iq_sh l, I, J, X)))) : iq_Gg 2 123 (12, [some (.ref 72), some (.ref 16), some (.int x2), some (.int x3), some (.int x4), some (.int x5), some (.int x6)], [], (iq_sh l, I, J, X)) r := by
  unfold zW_firstMending_l12_b at h
  refine iq_G_go (k := 4) (σ' := (21, [some (.ref 72), some (.ref 16), some (.int x2), some (.int x3), some (.int x4), some (.int x5), some (.int x6)], [.int (I 4 2), .int x6], (iq_sh l, I, J, X))) (fun _ => rfl) ?_
  rcases iq_ite h with ⟨hc_, h⟩ | ⟨hc_, h⟩
  · refine iq_G_pos (c := (I 4 2) ≤ x6) (σ1 := (49, [some (.ref 72), some (.ref 16), some (.int x2), some (.int x3), some (.int x4), some (.int x5), some (.int x6)], [], (iq_sh l, I, J, X))) (fun _ => rfl) hc_ ?_
    cases h
    exact iq_G_fg (L := [none, none, none, none, none, none, none]) trivial ((hx (.inl ()) rfl).1 () rfl)
  · refine iq_G_neg (c := (I 4 2) ≤ x6) (σ1 := (24, [some (.ref 72), some (.ref 16), some (.int x2), some (.int x3), some (.int x4), some (.int x5), some (.int x6)], [], (iq_sh l, I, J, X))) (fun _ => rfl) hc_ ?_
    refine iq_G_go (k := 6) (σ' := (32, [some (.ref 72), some (.ref 16), some (.int x2), some (.int x3), some (.int x4), some (.int x5), some (.int x6)], [.int x6, .int x4, .int x3, .int x2, .ref 16, .ref 72], (iq_sh l, I, J, X))) (fun _ => rfl) ?_
    obtain ⟨q2, hq2, h⟩ := iq_bnd h
    refine iq_G_call (σ' := (35, [some (.ref 72), some (.ref 16), some (.int x2), some (.int x3), some (.int x4), some (.int x5), some (.int x6)], [.int q2], (iq_sh l, I, J, X))) (fun _ => rfl) (zW_fewestBy_ok l x2 x3 x4 x6 I J X hq2) rfl rfl ?_
    refine iq_G_go (k := 1) (σ' := (37, [some (.ref 72), some (.ref 16), some (.int x2), some (.int x3), some (.int x4), some (.int x5), some (.int x6)], [.int x5, .int q2], (iq_sh l, I, J, X))) (fun _ => rfl) ?_
    rcases iq_ite h with ⟨hc_, h⟩ | ⟨hc_, h⟩
    · refine iq_G_pos (c := ¬ q2 = x5) (σ1 := (43, [some (.ref 72), some (.ref 16), some (.int x2), some (.int x3), some (.int x4), some (.int x5), some (.int x6)], [], (iq_sh l, I, J, X))) (fun _ => rfl) hc_ ?_
      refine iq_G_go (k := 2) (σ' := (12, [some (.ref 72), some (.ref 16), some (.int x2), some (.int x3), some (.int x4), some (.int x5), some (.int (x6 + (1 : Int32)))], [], (iq_sh l, I, J, X))) (fun _ => rfl) ?_
      cases h
      exact iq_G_fg (L := [some (.ref 72), some (.ref 16), some (.int x2), some (.int x3), some (.int x4), some (.int x5), some (.int (x6 + (1 : Int32)))]) (And.intro rfl (And.intro rfl (And.intro rfl (And.intro rfl (And.intro rfl (And.intro rfl (And.intro rfl trivial))))))) (hc (x6 + (1 : Int32)) rfl)
    · refine iq_G_neg (c := ¬ q2 = x5) (σ1 := (40, [some (.ref 72), some (.ref 16), some (.int x2), some (.int x3), some (.int x4), some (.int x5), some (.int x6)], [], (iq_sh l, I, J, X))) (fun _ => rfl) hc_ ?_
      refine iq_G_go (k := 1) (σ' := (42, [some (.ref 72), some (.ref 16), some (.int x2), some (.int x3), some (.int x4), some (.int x5), some (.int x6)], [.int x6], (iq_sh l, I, J, X))) (fun _ => rfl) ?_
      cases h
      obtain rfl := (hx _ rfl).2 _ rfl
      exact iq_G_ret (fun _ => rfl)
set_option maxRecDepth 100000 in
theorem zW_firstMending_l12_ok (l : Nat)  (x2 : Int32) (x3 : Int32) (x4 : Int32) (x5 : Int32) (I : iq_I) (J : iq_J) (X : iq_X) {n : Nat} {v : Int32} {w : (Unit) ⊕ (Int32)} (h : zW_firstMending_l12 x2 x3 x4 x5 I n v = some w) (r : iq_R × iq_M) (hq : (∀ a, w = .inl a → iq_Gg 2 123 (49, [none, none, none, none, none, none, none], [], (iq_sh l, I, J, X)) r) ∧ (∀ b, w = .inr b → r = (.inl (some (.int b)), (iq_sh l, I, J, X)))) : iq_Gg 2 123 (12, [some (.ref 72), some (.ref 16), some (.int x2), some (.int x3), some (.int x4), some (.int x5), some (.int v)], [], (iq_sh l, I, J, X)) r :=
  iq_lp_ok (σ := fun v => (12, [some (.ref 72), some (.ref 16), some (.int x2), some (.int x3), some (.int x4), some (.int x5), some (.int v)], [], (iq_sh l, I, J, X))) (Q := fun w r => (∀ a, w = .inl a → iq_Gg 2 123 (49, [none, none, none, none, none, none, none], [], (iq_sh l, I, J, X)) r) ∧ (∀ b, w = .inr b → r = (.inl (some (.int b)), (iq_sh l, I, J, X)))) (fun v q hv r h1 h2 => zW_firstMending_l12_bok l x2 x3 x4 x5 I J X v hv r h1 h2) h r hq
set_option maxRecDepth 100000 in
theorem zW_firstMending_ok (l : Nat)  (x2 : Int32) (x3 : Int32) (x4 : Int32) (I : iq_I) (J : iq_J) (X : iq_X) {q : Int32} (h : zW_firstMending x2 x3 x4 I = some q) : iq_Cc 3 123 [.ref 72, .ref 16, .int x2, .int x3, .int x4] (iq_sh l, I, J, X) (.inl (some (.int q)), (iq_sh l, I, J, X)) := by
  refine iq_Cc_of (L := [some (.ref 72), some (.ref 16), some (.int x2), some (.int x3), some (.int x4), none, none]) rfl rfl ?_
  unfold zW_firstMending at h
  refine iq_G_go (k := 3) (σ' := (4, [some (.ref 72), some (.ref 16), some (.int x2), some (.int x3), some (.int x4), none, none], [.int x4, .int x3, .ref 72], (iq_sh l, I, J, X))) (fun _ => rfl) ?_
  obtain ⟨q1, hq1, h⟩ := iq_bnd h
  refine iq_G_call (σ' := (7, [some (.ref 72), some (.ref 16), some (.int x2), some (.int x3), some (.int x4), none, none], [.int q1], (iq_sh l, I, J, X))) (fun _ => rfl) (zW_fewestFrom_ok l x3 x4 I J X hq1) rfl rfl ?_
  refine iq_G_go (k := 3) (σ' := (12, [some (.ref 72), some (.ref 16), some (.int x2), some (.int x3), some (.int x4), some (.int q1), some (.int (0 : Int32))], [], (iq_sh l, I, J, X))) (fun _ => rfl) ?_
  obtain ⟨w3, hw3, h⟩ := iq_bnd h
  refine iq_G_fg (L := [some (.ref 72), some (.ref 16), some (.int x2), some (.int x3), some (.int x4), some (.int q1), some (.int (0 : Int32))]) (And.intro rfl (And.intro rfl (And.intro rfl (And.intro rfl (And.intro rfl (And.intro rfl (And.intro rfl trivial))))))) ?_
  refine zW_firstMending_l12_ok l x2 x3 x4 q1 I J X hw3 _ ⟨fun a4 ha => ?_, fun b5 hb => ?_⟩
  · subst ha
    replace h := ir_smL h
    show iq_Gg 2 123 (49, [none, none, none, none, none, none, none], [], (iq_sh l, I, J, X)) _
    refine iq_G_go (k := 1) (σ' := (50, [none, none, none, none, none, none, none], [.int (-1 : Int32)], (iq_sh l, I, J, X))) (fun _ => rfl) ?_
    cases h
    exact iq_G_ret (fun _ => rfl)
  · subst hb
    replace h := ir_smR h
    cases h
    rfl
set_option maxRecDepth 100000 in
theorem zW_mendedWord_l10_bok (l : Nat)  (x2 : Int32) (x3 : Int32) (I : iq_I) (J : iq_J) (X : iq_X) (x4 : Int32) (x5 : Int32)  {q : (Int32 × Int32) ⊕ (Int32)} (h : zW_mendedWord_l10_b x2 x3 I x4 x5 = some q) (r : iq_R × iq_M) (hc : ∀ v, q = .inl v → iq_Gg 3 122 (10, [some (.ref 72), some (.ref 16), some (.int x2), some (.int x3), some (.int v.1), some (.int v.2)], [], (iq_sh l, I, J, X)) r) (hx : ∀ w, q = .inr w → iq_Gg 3 122 (50, [some (.ref 72), some (.ref 16), some (.int x2), some (.int x3), some (.int w), none], [], (iq_sh l, I, J, X)) r) : iq_Gg 3 122 (10, [some (.ref 72), some (.ref 16), some (.int x2), some (.int x3), some (.int x4), some (.int x5)], [], (iq_sh l, I, J, X)) r := by
  unfold zW_mendedWord_l10_b at h
  refine iq_G_go (k := 2) (σ' := (13, [some (.ref 72), some (.ref 16), some (.int x2), some (.int x3), some (.int x4), some (.int x5)], [.int x3, .int x5], (iq_sh l, I, J, X))) (fun _ => rfl) ?_
  rcases iq_ite h with ⟨hc_, h⟩ | ⟨hc_, h⟩
  · refine iq_G_pos (c := x3 ≤ x5) (σ1 := (50, [some (.ref 72), some (.ref 16), some (.int x2), some (.int x3), some (.int x4), some (.int x5)], [], (iq_sh l, I, J, X))) (fun _ => rfl) hc_ ?_
    cases h
    exact iq_G_fg (L := [some (.ref 72), some (.ref 16), some (.int x2), some (.int x3), some (.int x4), none]) (And.intro rfl (And.intro rfl (And.intro rfl (And.intro rfl (And.intro rfl trivial))))) (hx x4 rfl)
  · refine iq_G_neg (c := x3 ≤ x5) (σ1 := (16, [some (.ref 72), some (.ref 16), some (.int x2), some (.int x3), some (.int x4), some (.int x5)], [], (iq_sh l, I, J, X))) (fun _ => rfl) hc_ ?_
    refine iq_G_go (k := 2) (σ' := (20, [some (.ref 72), some (.ref 16), some (.int x2), some (.int x3), some (.int x4), some (.int x5)], [.int (40 : Int32), .int x5], (iq_sh l, I, J, X))) (fun _ => rfl) ?_
    rcases iq_ite h with ⟨hc_, h⟩ | ⟨hc_, h⟩
    · refine iq_G_pos (c := (40 : Int32) ≤ x5) (σ1 := (50, [some (.ref 72), some (.ref 16), some (.int x2), some (.int x3), some (.int x4), some (.int x5)], [], (iq_sh l, I, J, X))) (fun _ => rfl) hc_ ?_
      cases h
      exact iq_G_fg (L := [some (.ref 72), some (.ref 16), some (.int x2), some (.int x3), some (.int x4), none]) (And.intro rfl (And.intro rfl (And.intro rfl (And.intro rfl (And.intro rfl trivial))))) (hx x4 rfl)
    · refine iq_G_neg (c := (40 : Int32) ≤ x5) (σ1 := (23, [some (.ref 72), some (.ref 16), some (.int x2), some (.int x3), some (.int x4), some (.int x5)], [], (iq_sh l, I, J, X))) (fun _ => rfl) hc_ ?_
      refine iq_G_go (k := 8) (σ' := (36, [some (.ref 72), some (.ref 16), some (.int x2), some (.int x3), some (.int x4), some (.int x5)], [.int x4, .int x5, .int x2, .ref 16, .ref 72, .int x4, .ref 4], (iq_sh l, I, J, X))) (fun _ => rfl) ?_
      obtain ⟨q2, hq2, h⟩ := iq_bnd h
      refine iq_G_call (σ' := (39, [some (.ref 72), some (.ref 16), some (.int x2), some (.int x3), some (.int x4), some (.int x5)], [.int q2, .int x4, .ref 4], (iq_sh l, I, J, X))) (fun _ => rfl) (zW_firstMending_ok l x2 x5 x4 I J X hq2) rfl rfl ?_
      obtain ⟨q3, hq3, h⟩ := iq_bnd h
      refine iq_G_call (σ' := (42, [some (.ref 72), some (.ref 16), some (.int x2), some (.int x3), some (.int x4), some (.int x5)], [.int q3], (iq_sh l, I, J, X))) (fun _ => rfl) (zU_leadsTo_4_ok l x4 q2 I J X hq3) rfl rfl ?_
      refine iq_G_go (k := 3) (σ' := (10, [some (.ref 72), some (.ref 16), some (.int x2), some (.int x3), some (.int q3), some (.int (x5 + (1 : Int32)))], [], (iq_sh l, I, J, X))) (fun _ => rfl) ?_
      cases h
      exact iq_G_fg (L := [some (.ref 72), some (.ref 16), some (.int x2), some (.int x3), some (.int q3), some (.int (x5 + (1 : Int32)))]) (And.intro rfl (And.intro rfl (And.intro rfl (And.intro rfl (And.intro rfl (And.intro rfl trivial)))))) (hc (q3, (x5 + (1 : Int32))) rfl)
set_option maxRecDepth 100000 in
theorem zW_mendedWord_l10_ok (l : Nat)  (x2 : Int32) (x3 : Int32) (I : iq_I) (J : iq_J) (X : iq_X) {n : Nat} {v : Int32 × Int32} {w : Int32} (h : zW_mendedWord_l10 x2 x3 I n v = some w) (r : iq_R × iq_M) (hq : iq_Gg 3 122 (50, [some (.ref 72), some (.ref 16), some (.int x2), some (.int x3), some (.int w), none], [], (iq_sh l, I, J, X)) r) : iq_Gg 3 122 (10, [some (.ref 72), some (.ref 16), some (.int x2), some (.int x3), some (.int v.1), some (.int v.2)], [], (iq_sh l, I, J, X)) r :=
  iq_lp_ok (σ := fun v => (10, [some (.ref 72), some (.ref 16), some (.int x2), some (.int x3), some (.int v.1), some (.int v.2)], [], (iq_sh l, I, J, X))) (Q := fun w r => iq_Gg 3 122 (50, [some (.ref 72), some (.ref 16), some (.int x2), some (.int x3), some (.int w), none], [], (iq_sh l, I, J, X)) r) (fun v q hv r h1 h2 => zW_mendedWord_l10_bok l x2 x3 I J X v.1 v.2 hv r h1 h2) h r hq
set_option maxRecDepth 100000 in
theorem zW_mendedWord_50_ok (l : Nat)  (x2 : Int32) (x3 : Int32) (x4 : Int32) (I : iq_I) (J : iq_J) (X : iq_X)  {q : Int32} (h : zW_mendedWord_50 x2 x3 x4 I = some q)  : iq_Gg 3 122 (50, [some (.ref 72), some (.ref 16), some (.int x2), some (.int x3), some (.int x4), none], [], (iq_sh l, I, J, X)) (.inl (some (.int q)), (iq_sh l, I, J, X)) := by
  unfold zW_mendedWord_50 at h
  refine iq_G_go (k := 5) (σ' := (56, [some (.ref 72), some (.ref 16), some (.int x2), some (.int x3), some (.int x4), none], [.int x4, .int x3, .int x2, .ref 16, .ref 72], (iq_sh l, I, J, X))) (fun _ => rfl) ?_
  obtain ⟨q5, hq5, h⟩ := iq_bnd h
  refine iq_G_call (σ' := (59, [some (.ref 72), some (.ref 16), some (.int x2), some (.int x3), some (.int x4), none], [.int q5], (iq_sh l, I, J, X))) (fun _ => rfl) (zW_firstMending_ok l x2 x3 x4 I J X hq5) rfl rfl ?_
  cases h
  exact iq_G_ret (fun _ => rfl)
set_option maxRecDepth 100000 in
theorem zW_mendedWord_ok (l : Nat)  (x2 : Int32) (x3 : Int32) (I : iq_I) (J : iq_J) (X : iq_X) {q : Int32} (h : zW_mendedWord x2 x3 I = some q) : iq_Cc 4 122 [.ref 72, .ref 16, .int x2, .int x3] (iq_sh l, I, J, X) (.inl (some (.int q)), (iq_sh l, I, J, X)) := by
  refine iq_Cc_of (L := [some (.ref 72), some (.ref 16), some (.int x2), some (.int x3), none, none]) rfl rfl ?_
  unfold zW_mendedWord at h
  refine iq_G_go (k := 2) (σ' := (2, [some (.ref 72), some (.ref 16), some (.int x2), some (.int x3), none, none], [.int x2, .ref 16], (iq_sh l, I, J, X))) (fun _ => rfl) ?_
  obtain ⟨q1, hq1, h⟩ := iq_bnd h
  refine iq_G_call (σ' := (5, [some (.ref 72), some (.ref 16), some (.int x2), some (.int x3), none, none], [.int q1], (iq_sh l, I, J, X))) (fun _ => rfl) (zG_beginOf_16_ok l x2 I J X hq1) rfl rfl ?_
  refine iq_G_go (k := 3) (σ' := (10, [some (.ref 72), some (.ref 16), some (.int x2), some (.int x3), some (.int q1), some (.int (0 : Int32))], [], (iq_sh l, I, J, X))) (fun _ => rfl) ?_
  obtain ⟨w4, hw4, h⟩ := iq_bnd h
  refine iq_G_fg (L := [some (.ref 72), some (.ref 16), some (.int x2), some (.int x3), some (.int q1), some (.int (0 : Int32))]) (And.intro rfl (And.intro rfl (And.intro rfl (And.intro rfl (And.intro rfl (And.intro rfl trivial)))))) ?_
  refine zW_mendedWord_l10_ok l x2 x3 I J X hw4 _ ?_
  show iq_Gg 3 122 (50, [some (.ref 72), some (.ref 16), some (.int x2), some (.int x3), some (.int w4), none], [], (iq_sh l, I, J, X)) _
  exact iq_G_fg (L := [some (.ref 72), some (.ref 16), some (.int x2), some (.int x3), some (.int w4), none]) (And.intro rfl (And.intro rfl (And.intro rfl (And.intro rfl (And.intro rfl trivial))))) (zW_mendedWord_50_ok l x2 x3 w4 I J X  h )
set_option maxRecDepth 100000 in
theorem zO_mend_ok (l : Nat)  (x1 : Int32) (x2 : Int32) (I : iq_I) (J : iq_J) (X : iq_X) {q : (Int32 ⊕ Nat) × iq_I × iq_X} (h : zO_mend x1 x2 I X = some q) : iq_Cc 5 183 [.ref 1, .int x1, .int x2] (iq_sh l, I, J, X) ((ir_Ri q.1), (iq_sh l, q.2.1, J, q.2.2)) := by
  refine iq_Cc_of (L := [some (.ref 1), some (.int x1), some (.int x2), none]) rfl rfl ?_
  unfold zO_mend at h
  refine iq_G_go (k := 2) (σ' := (2, [some (.ref 1), some (.int x1), some (.int x2), none], [.int x1, .ref 1], (iq_sh l, I, J, X))) (fun _ => rfl) ?_
  obtain ⟨q1, hq1, h⟩ := iq_bnd h
  have hC := (zO_needSaying_ok l x1 I J X hq1)
  rcases iq_smc h with ⟨a2, ha, h⟩ | ⟨k3, ha, h⟩
  · rw [ha] at hC
    refine iq_G_call (σ' := (5, [some (.ref 1), some (.int x1), some (.int x2), none], [], (iq_sh l, I, J, q1.2))) (fun _ => rfl) hC rfl rfl ?_
    refine iq_G_go (k := 5) (σ' := (14, [some (.ref 1), some (.int x1), some (.int x2), none], [.int x1, .ref 16, .ref 72], (iq_sh l, I, J, q1.2))) (fun _ => rfl) ?_
    obtain ⟨q4, hq4, h⟩ := iq_bnd h
    refine iq_G_call (σ' := (17, [some (.ref 1), some (.int x1), some (.int x2), none], [.int q4.1], (iq_sh l, q4.2, J, q1.2))) (fun _ => rfl) (zW_fewestToMend_ok l x1 I J q1.2 hq4) rfl rfl ?_
    refine iq_G_go (k := 3) (σ' := (20, [some (.ref 1), some (.int x1), some (.int x2), some (.int q4.1)], [.int (-1 : Int32), .int x2], (iq_sh l, q4.2, J, q1.2))) (fun _ => rfl) ?_
    rcases iq_ite h with ⟨hc_, h⟩ | ⟨hc_, h⟩
    · refine iq_G_pos (c := ¬ x2 = (-1 : Int32)) (σ1 := (25, [some (.ref 1), some (.int x1), some (.int x2), some (.int q4.1)], [], (iq_sh l, q4.2, J, q1.2))) (fun _ => rfl) hc_ ?_
      refine iq_G_go (k := 3) (σ' := (28, [some (.ref 1), some (.int x1), some (.int x2), some (.int q4.1)], [.int x2, .int x1, .ref 1], (iq_sh l, q4.2, J, q1.2))) (fun _ => rfl) ?_
      obtain ⟨q5, hq5, h⟩ := iq_bnd h
      have hC := (zO_needPlace_ok l x1 x2 q4.2 J q1.2 hq5)
      rcases iq_smc h with ⟨a6, ha, h⟩ | ⟨k7, ha, h⟩
      · rw [ha] at hC
        refine iq_G_call (σ' := (31, [some (.ref 1), some (.int x1), some (.int x2), some (.int q4.1)], [], (iq_sh l, q4.2, J, q5.2))) (fun _ => rfl) hC rfl rfl ?_
        refine iq_G_go (k := 2) (σ' := (33, [some (.ref 1), some (.int x1), some (.int x2), some (.int q4.1)], [.int (-1 : Int32), .int q4.1], (iq_sh l, q4.2, J, q5.2))) (fun _ => rfl) ?_
        rcases iq_ite h with ⟨hc_, h⟩ | ⟨hc_, h⟩
        · refine iq_G_pos (c := ¬ q4.1 = (-1 : Int32)) (σ1 := (47, [some (.ref 1), some (.int x1), some (.int x2), some (.int q4.1)], [], (iq_sh l, q4.2, J, q5.2))) (fun _ => rfl) hc_ ?_
          refine iq_G_go (k := 6) (σ' := (57, [some (.ref 1), some (.int x1), some (.int x2), some (.int q4.1)], [.int x2, .int x1, .ref 16, .ref 72], (iq_sh l, q4.2, J, q5.2))) (fun _ => rfl) ?_
          obtain ⟨q8, hq8, h⟩ := iq_bnd h
          refine iq_G_call (σ' := (60, [some (.ref 1), some (.int x1), some (.int x2), some (.int q4.1)], [.int q8], (iq_sh l, q4.2, J, q5.2))) (fun _ => rfl) (zW_mendedWord_ok l x1 x2 q4.2 J q5.2 hq8) rfl rfl ?_
          cases h
          exact iq_G_ret (fun _ => rfl)
        · refine iq_G_neg (c := ¬ q4.1 = (-1 : Int32)) (σ1 := (36, [some (.ref 1), some (.int x1), some (.int x2), some (.int q4.1)], [], (iq_sh l, q4.2, J, q5.2))) (fun _ => rfl) hc_ ?_
          cases h
          exact iq_G_ret (fun _ => rfl)
      · rw [ha] at hC
        cases h
        exact iq_G_callx (fun _ => rfl) hC rfl rfl
    · refine iq_G_neg (c := ¬ x2 = (-1 : Int32)) (σ1 := (23, [some (.ref 1), some (.int x1), some (.int x2), some (.int q4.1)], [], (iq_sh l, q4.2, J, q1.2))) (fun _ => rfl) hc_ ?_
      refine iq_G_go (k := 1) (σ' := (24, [some (.ref 1), some (.int x1), some (.int x2), some (.int q4.1)], [.int q4.1], (iq_sh l, q4.2, J, q1.2))) (fun _ => rfl) ?_
      cases h
      exact iq_G_ret (fun _ => rfl)
  · rw [ha] at hC
    cases h
    exact iq_G_callx (fun _ => rfl) hC rfl rfl
set_option maxRecDepth 100000 in
theorem zL_mend_ok (l : Nat)  (x1 : Int32) (x2 : Int32) (I : iq_I) (J : iq_J) (X : iq_X) {q : Int32 × iq_I × iq_J × iq_X} (h : zL_mend x1 x2 I J X = some q) : iq_Cc 6 352 [.ref 1, .int x1, .int x2, .ref 114] (iq_sh l, I, J, X) (.inl (some (.int q.1)), (iq_sh l, q.2.1, q.2.2.1, q.2.2.2)) := by
  refine iq_Cc_of (L := [some (.ref 1), some (.int x1), some (.int x2), some (.ref 114), none]) rfl rfl ?_
  unfold zL_mend at h
  refine iq_G_go (k := 5) (σ' := (5, [some (.ref 1), some (.int x1), some (.int x2), some (.ref 114), none], [.int x2, .int x1, .ref 1, .int (0 : Int32), .ref 114], (iq_sh l, I, J, X))) (fun _ => rfl) ?_
  obtain ⟨q1, hq1, h⟩ := iq_bnd h
  have hC := (zO_mend_ok l x1 x2 I J X hq1)
  rcases iq_smc h with ⟨a2, ha, h⟩ | ⟨k3, ha, h⟩
  · rw [ha] at hC
    refine iq_G_call (σ' := (8, [some (.ref 1), some (.int x1), some (.int x2), some (.ref 114), none], [.int a2, .int (0 : Int32), .ref 114], (iq_sh l, q1.2.1, J, q1.2.2))) (fun _ => rfl) hC rfl rfl ?_
    refine iq_G_go (k := 1) (σ' := (9, [some (.ref 1), some (.int x1), some (.int x2), some (.ref 114), none], [.long (Int32.toInt64 a2), .int (0 : Int32), .ref 114], (iq_sh l, q1.2.1, J, q1.2.2))) (fun _ => rfl) ?_
    refine iq_G_go (k := 1) (σ' := (10, [some (.ref 1), some (.int x1), some (.int x2), some (.ref 114), none], [], (iq_sh l, q1.2.1, (iq_upJ J 114 0 (Int32.toInt64 a2)), q1.2.2))) (fun _ => rfl) ?_
    obtain ⟨J4, eJ4, h⟩ := ir_letG h
    rw [← eJ4]
    clear eJ4
    refine iq_G_go (k := 2) (σ' := (18, [some (.ref 1), some (.int x1), some (.int x2), some (.ref 114), none], [.int (0 : Int32)], (iq_sh l, q1.2.1, J4, q1.2.2))) (fun _ => rfl) ?_
    cases h
    exact iq_G_ret (fun _ => rfl)
  · rw [ha] at hC
    rcases iq_ite h with ⟨e, h⟩ | ⟨_, h⟩
    · subst e
      refine iq_G_call (σ' := (15, [some (.ref 1), some (.int x1), some (.int x2), some (.ref 114), none], [], (iq_sh l, q1.2.1, J, q1.2.2))) (fun _ => rfl) hC rfl rfl ?_
      refine iq_G_go (k := 1) (σ' := (16, [some (.ref 1), some (.int x1), some (.int x2), some (.ref 114), none], [.int (1 : Int32)], (iq_sh l, q1.2.1, J, q1.2.2))) (fun _ => rfl) ?_
      cases h
      exact iq_G_ret (fun _ => rfl)
    · obtain ⟨e, h⟩ := iq_itn h
      cases h
set_option maxRecDepth 100000 in
theorem zM_leads_ok (l : Nat)  (x1 : Int32) (x2 : Int32) (I : iq_I) (J : iq_J) (X : iq_X) {q : Int32} (h : zM_leads x1 x2 I = some q) : iq_Cc 1 244 [.ref 76, .int x1, .int x2] (iq_sh l, I, J, X) (.inl (some (.int q)), (iq_sh l, I, J, X)) := by
  refine iq_Cc_of (L := [some (.ref 76), some (.int x1), some (.int x2)]) rfl rfl ?_
  unfold zM_leads at h
  refine iq_G_go (k := 8) (σ' := (13, [some (.ref 76), some (.int x1), some (.int x2)], [.int x2, .ref 79, .int ((8 : Int32) * x1), .ref 80], (iq_sh l, I, J, X))) (fun _ => rfl) ?_
  obtain ⟨hc_, h⟩ := iq_itn h
  refine iq_G_pos (c := iq_in x2 14) (σ1 := (14, [some (.ref 76), some (.int x1), some (.int x2)], [.int (I 79 (Int32.toNatClampNeg x2)), .int ((8 : Int32) * x1), .ref 80], (iq_sh l, I, J, X))) (fun _ => rfl) hc_ ?_
  refine iq_G_go (k := 1) (σ' := (15, [some (.ref 76), some (.int x1), some (.int x2)], [.int (((8 : Int32) * x1) + (I 79 (Int32.toNatClampNeg x2))), .ref 80], (iq_sh l, I, J, X))) (fun _ => rfl) ?_
  obtain ⟨hc_, h⟩ := iq_itn h
  refine iq_G_pos (c := iq_in (((8 : Int32) * x1) + (I 79 (Int32.toNatClampNeg x2))) 80) (σ1 := (16, [some (.ref 76), some (.int x1), some (.int x2)], [.int (I 80 (Int32.toNatClampNeg (((8 : Int32) * x1) + (I 79 (Int32.toNatClampNeg x2)))))], (iq_sh l, I, J, X))) (fun _ => rfl) hc_ ?_
  cases h
  exact iq_G_ret (fun _ => rfl)

