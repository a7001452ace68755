/-! ===== the law ===== -/
/-! ===== the abstract machine does the same (printed by wip/whole/emitall.py, split.py) ===== -/
set_option maxRecDepth 100000 in
theorem zL_law_220_ok (l : Nat)  (x4 : Int32) (I : iq_I) (J : iq_J) (X : iq_X)  {q : (Int32 × iq_I × iq_J × iq_X) ⊕ ((iq_I × iq_J × iq_X) ⊕ (Int32 × iq_I × iq_J × iq_X))} (h : zL_law_220 l x4 I J X = some q) (r : iq_R × iq_M) (hc : ∀ v, q = .inl v → iq_Gg 72 357 (23, [some (.ref 0), some (.ref 1), some (.ref 76), some (.ref 114), some (.int v.1), none, none, none], [], (iq_sh l, v.2.1, v.2.2.1, v.2.2.2)) r) (hx : ∀ w, q = .inr w → (∀ a, w = .inl a → iq_Gg 72 357 (2530, [none, none, none, none, none, none, none, none], [], (iq_sh l, a.1, a.2.1, a.2.2)) r) ∧ (∀ b, w = .inr b → r = (.inl (some (.int b.1)), (iq_sh l, b.2.1, b.2.2.1, b.2.2.2)))) : iq_Gg 72 357 (220, [some (.ref 0), some (.ref 1), some (.ref 76), some (.ref 114), some (.int x4), none, none, none], [], (iq_sh l, I, J, X)) r := by
  unfold zL_law_220 at h
  refine iq_G_go (k := 5) (σ' := (226, [some (.ref 0), some (.ref 1), some (.ref 76), some (.ref 114), some (.int x4), none, none, none], [.int (x4 + (1 : Int32)), .ref 0, .ref 1], (iq_sh l, I, J, X))) (fun _ => rfl) ?_
  obtain ⟨hc_, h⟩ := iq_itn h
  refine iq_G_pos (c := iq_in (x4 + (1 : Int32)) l) (σ1 := (227, [some (.ref 0), some (.ref 1), some (.ref 76), some (.ref 114), some (.int x4), none, none, none], [.int (I 0 (Int32.toNatClampNeg (x4 + (1 : Int32)))), .ref 1], (iq_sh l, I, J, X))) (fun _ => rfl) hc_ ?_
  refine iq_G_go (k := 4) (σ' := (232, [some (.ref 0), some (.ref 1), some (.ref 76), some (.ref 114), some (.int x4), none, none, none], [.int (x4 + (2 : Int32)), .ref 0, .int (I 0 (Int32.toNatClampNeg (x4 + (1 : Int32)))), .ref 1], (iq_sh l, I, J, X))) (fun _ => rfl) ?_
  obtain ⟨hc_, h⟩ := iq_itn h
  refine iq_G_pos (c := iq_in (x4 + (2 : Int32)) l) (σ1 := (233, [some (.ref 0), some (.ref 1), some (.ref 76), some (.ref 114), some (.int x4), none, none, none], [.int (I 0 (Int32.toNatClampNeg (x4 + (2 : Int32)))), .int (I 0 (Int32.toNatClampNeg (x4 + (1 : Int32)))), .ref 1], (iq_sh l, I, J, X))) (fun _ => rfl) hc_ ?_
  refine iq_G_go (k := 4) (σ' := (238, [some (.ref 0), some (.ref 1), some (.ref 76), some (.ref 114), some (.int x4), none, none, none], [.int (x4 + (3 : Int32)), .ref 0, .int (I 0 (Int32.toNatClampNeg (x4 + (2 : Int32)))), .int (I 0 (Int32.toNatClampNeg (x4 + (1 : Int32)))), .ref 1], (iq_sh l, I, J, X))) (fun _ => rfl) ?_
  obtain ⟨hc_, h⟩ := iq_itn h
  refine iq_G_pos (c := iq_in (x4 + (3 : Int32)) l) (σ1 := (239, [some (.ref 0), some (.ref 1), some (.ref 76), some (.ref 114), some (.int x4), none, none, none], [.int (I 0 (Int32.toNatClampNeg (x4 + (3 : Int32)))), .int (I 0 (Int32.toNatClampNeg (x4 + (2 : Int32)))), .int (I 0 (Int32.toNatClampNeg (x4 + (1 : Int32)))), .ref 1], (iq_sh l, I, J, X))) (fun _ => rfl) hc_ ?_
  refine iq_G_go (k := 4) (σ' := (244, [some (.ref 0), some (.ref 1), some (.ref 76), some (.ref 114), some (.int x4), none, none, none], [.int (x4 + (4 : Int32)), .ref 0, .int (I 0 (Int32.toNatClampNeg (x4 + (3 : Int32)))), .int (I 0 (Int32.toNatClampNeg (x4 + (2 : Int32)))), .int (I 0 (Int32.toNatClampNeg (x4 + (1 : Int32)))), .ref 1], (iq_sh l, I, J, X))) (fun _ => rfl) ?_
  obtain ⟨hc_, h⟩ := iq_itn h
  refine iq_G_pos (c := iq_in (x4 + (4 : Int32)) l) (σ1 := (245, [some (.ref 0), some (.ref 1), some (.ref 76), some (.ref 114), some (.int x4), none, none, none], [.int (I 0 (Int32.toNatClampNeg (x4 + (4 : Int32)))), .int (I 0 (Int32.toNatClampNeg (x4 + (3 : Int32)))), .int (I 0 (Int32.toNatClampNeg (x4 + (2 : Int32)))), .int (I 0 (Int32.toNatClampNeg (x4 + (1 : Int32)))), .ref 1], (iq_sh l, I, J, X))) (fun _ => rfl) hc_ ?_
  refine iq_G_go (k := 4) (σ' := (250, [some (.ref 0), some (.ref 1), some (.ref 76), some (.ref 114), some (.int x4), none, none, none], [.int (x4 + (5 : Int32)), .ref 0, .int (I 0 (Int32.toNatClampNeg (x4 + (4 : Int32)))), .int (I 0 (Int32.toNatClampNeg (x4 + (3 : Int32)))), .int (I 0 (Int32.toNatClampNeg (x4 + (2 : Int32)))), .int (I 0 (Int32.toNatClampNeg (x4 + (1 : Int32)))), .ref 1], (iq_sh l, I, J, X))) (fun _ => rfl) ?_
  obtain ⟨hc_, h⟩ := iq_itn h
  refine iq_G_pos (c := iq_in (x4 + (5 : Int32)) l) (σ1 := (251, [some (.ref 0), some (.ref 1), some (.ref 76), some (.ref 114), some (.int x4), none, none, none], [.int (I 0 (Int32.toNatClampNeg (x4 + (5 : Int32)))), .int (I 0 (Int32.toNatClampNeg (x4 + (4 : Int32)))), .int (I 0 (Int32.toNatClampNeg (x4 + (3 : Int32)))), .int (I 0 (Int32.toNatClampNeg (x4 + (2 : Int32)))), .int (I 0 (Int32.toNatClampNeg (x4 + (1 : Int32)))), .ref 1], (iq_sh l, I, J, X))) (fun _ => rfl) hc_ ?_
  obtain ⟨q1, hq1, h⟩ := iq_bnd h
  refine iq_G_call (σ' := (254, [some (.ref 0), some (.ref 1), some (.ref 76), some (.ref 114), some (.int x4), none, none, none], [.int q1.1], (iq_sh l, q1.2, J, X))) (fun _ => rfl) (zO_feed_ok l (I 0 (Int32.toNatClampNeg (x4 + (1 : Int32)))) (I 0 (Int32.toNatClampNeg (x4 + (2 : Int32)))) (I 0 (Int32.toNatClampNeg (x4 + (3 : Int32)))) (I 0 (Int32.toNatClampNeg (x4 + (4 : Int32)))) (I 0 (Int32.toNatClampNeg (x4 + (5 : Int32)))) I J X hq1) rfl rfl ?_
  refine iq_G_go (k := 5) (σ' := (260, [some (.ref 0), some (.ref 1), some (.ref 76), some (.ref 114), some (.int x4), none, none, none], [.int (x4 + (1 : Int32)), .ref 0, .ref 76, .int q1.1], (iq_sh l, q1.2, J, X))) (fun _ => rfl) ?_
  obtain ⟨hc_, h⟩ := iq_itn h
  refine iq_G_pos (c := iq_in (x4 + (1 : Int32)) l) (σ1 := (261, [some (.ref 0), some (.ref 1), some (.ref 76), some (.ref 114), some (.int x4), none, none, none], [.int (q1.2 0 (Int32.toNatClampNeg (x4 + (1 : Int32)))), .ref 76, .int q1.1], (iq_sh l, q1.2, J, X))) (fun _ => rfl) hc_ ?_
  refine iq_G_go (k := 4) (σ' := (266, [some (.ref 0), some (.ref 1), some (.ref 76), some (.ref 114), some (.int x4), none, none, none], [.int (x4 + (2 : Int32)), .ref 0, .int (q1.2 0 (Int32.toNatClampNeg (x4 + (1 : Int32)))), .ref 76, .int q1.1], (iq_sh l, q1.2, J, X))) (fun _ => rfl) ?_
  obtain ⟨hc_, h⟩ := iq_itn h
  refine iq_G_pos (c := iq_in (x4 + (2 : Int32)) l) (σ1 := (267, [some (.ref 0), some (.ref 1), some (.ref 76), some (.ref 114), some (.int x4), none, none, none], [.int (q1.2 0 (Int32.toNatClampNeg (x4 + (2 : Int32)))), .int (q1.2 0 (Int32.toNatClampNeg (x4 + (1 : Int32)))), .ref 76, .int q1.1], (iq_sh l, q1.2, J, X))) (fun _ => rfl) hc_ ?_
  refine iq_G_go (k := 4) (σ' := (272, [some (.ref 0), some (.ref 1), some (.ref 76), some (.ref 114), some (.int x4), none, none, none], [.int (x4 + (3 : Int32)), .ref 0, .int (q1.2 0 (Int32.toNatClampNeg (x4 + (2 : Int32)))), .int (q1.2 0 (Int32.toNatClampNeg (x4 + (1 : Int32)))), .ref 76, .int q1.1], (iq_sh l, q1.2, J, X))) (fun _ => rfl) ?_
  obtain ⟨hc_, h⟩ := iq_itn h
  refine iq_G_pos (c := iq_in (x4 + (3 : Int32)) l) (σ1 := (273, [some (.ref 0), some (.ref 1), some (.ref 76), some (.ref 114), some (.int x4), none, none, none], [.int (q1.2 0 (Int32.toNatClampNeg (x4 + (3 : Int32)))), .int (q1.2 0 (Int32.toNatClampNeg (x4 + (2 : Int32)))), .int (q1.2 0 (Int32.toNatClampNeg (x4 + (1 : Int32)))), .ref 76, .int q1.1], (iq_sh l, q1.2, J, X))) (fun _ => rfl) hc_ ?_
  refine iq_G_go (k := 4) (σ' := (278, [some (.ref 0), some (.ref 1), some (.ref 76), some (.ref 114), some (.int x4), none, none, none], [.int (x4 + (4 : Int32)), .ref 0, .int (q1.2 0 (Int32.toNatClampNeg (x4 + (3 : Int32)))), .int (q1.2 0 (Int32.toNatClampNeg (x4 + (2 : Int32)))), .int (q1.2 0 (Int32.toNatClampNeg (x4 + (1 : Int32)))), .ref 76, .int q1.1], (iq_sh l, q1.2, J, X))) (fun _ => rfl) ?_
  obtain ⟨hc_, h⟩ := iq_itn h
  refine iq_G_pos (c := iq_in (x4 + (4 : Int32)) l) (σ1 := (279, [some (.ref 0), some (.ref 1), some (.ref 76), some (.ref 114), some (.int x4), none, none, none], [.int (q1.2 0 (Int32.toNatClampNeg (x4 + (4 : Int32)))), .int (q1.2 0 (Int32.toNatClampNeg (x4 + (3 : Int32)))), .int (q1.2 0 (Int32.toNatClampNeg (x4 + (2 : Int32)))), .int (q1.2 0 (Int32.toNatClampNeg (x4 + (1 : Int32)))), .ref 76, .int q1.1], (iq_sh l, q1.2, J, X))) (fun _ => rfl) hc_ ?_
  refine iq_G_go (k := 4) (σ' := (284, [some (.ref 0), some (.ref 1), some (.ref 76), some (.ref 114), some (.int x4), none, none, none], [.int (x4 + (5 : Int32)), .ref 0, .int (q1.2 0 (Int32.toNatClampNeg (x4 + (4 : Int32)))), .int (q1.2 0 (Int32.toNatClampNeg (x4 + (3 : Int32)))), .int (q1.2 0 (Int32.toNatClampNeg (x4 + (2 : Int32)))), .int (q1.2 0 (Int32.toNatClampNeg (x4 + (1 : Int32)))), .ref 76, .int q1.1], (iq_sh l, q1.2, J, X))) (fun _ => rfl) ?_
  obtain ⟨hc_, h⟩ := iq_itn h
  refine iq_G_pos (c := iq_in (x4 + (5 : Int32)) l) (σ1 := (285, [some (.ref 0), some (.ref 1), some (.ref 76), some (.ref 114), some (.int x4), none, none, none], [.int (q1.2 0 (Int32.toNatClampNeg (x4 + (5 : Int32)))), .int (q1.2 0 (Int32.toNatClampNeg (x4 + (4 : Int32)))), .int (q1.2 0 (Int32.toNatClampNeg (x4 + (3 : Int32)))), .int (q1.2 0 (Int32.toNatClampNeg (x4 + (2 : Int32)))), .int (q1.2 0 (Int32.toNatClampNeg (x4 + (1 : Int32)))), .ref 76, .int q1.1], (iq_sh l, q1.2, J, X))) (fun _ => rfl) hc_ ?_
  obtain ⟨q2, hq2, h⟩ := iq_bnd h
  refine iq_G_call (σ' := (288, [some (.ref 0), some (.ref 1), some (.ref 76), some (.ref 114), some (.int x4), none, none, none], [.int q2.1, .int q1.1], (iq_sh l, q2.2, J, X))) (fun _ => rfl) (zM_feed_ok l (q1.2 0 (Int32.toNatClampNeg (x4 + (1 : Int32)))) (q1.2 0 (Int32.toNatClampNeg (x4 + (2 : Int32)))) (q1.2 0 (Int32.toNatClampNeg (x4 + (3 : Int32)))) (q1.2 0 (Int32.toNatClampNeg (x4 + (4 : Int32)))) (q1.2 0 (Int32.toNatClampNeg (x4 + (5 : Int32)))) q1.2 J X hq2) rfl rfl ?_
  rcases iq_ite h with ⟨hc_, h⟩ | ⟨hc_, h⟩
  · refine iq_G_pos (c := q1.1 = q2.1) (σ1 := (2524, [some (.ref 0), some (.ref 1), some (.ref 76), some (.ref 114), some (.int x4), none, none, none], [], (iq_sh l, q2.2, J, X))) (fun _ => rfl) hc_ ?_
    refine iq_G_go (k := 2) (σ' := (23, [some (.ref 0), some (.ref 1), some (.ref 76), some (.ref 114), some (.int (x4 + (6 : Int32))), none, none, none], [], (iq_sh l, q2.2, J, X))) (fun _ => rfl) ?_
    cases h
    exact iq_G_fg (L := [some (.ref 0), some (.ref 1), some (.ref 76), some (.ref 114), some (.int (x4 + (6 : Int32))), none, none, none]) (And.intro rfl (And.intro rfl (And.intro rfl (And.intro rfl (And.intro rfl trivial))))) (hc ((x4 + (6 : Int32)), q2.2, J, X) rfl)
  · refine iq_G_neg (c := q1.1 = q2.1) (σ1 := (291, [some (.ref 0), some (.ref 1), some (.ref 76), some (.ref 114), some (.int x4), none, none, none], [], (iq_sh l, q2.2, J, X))) (fun _ => rfl) hc_ ?_
    refine iq_G_go (k := 1) (σ' := (292, [some (.ref 0), some (.ref 1), some (.ref 76), some (.ref 114), some (.int x4), none, none, none], [.int (0 : Int32)], (iq_sh l, q2.2, J, X))) (fun _ => rfl) ?_
    cases h
    obtain rfl := (hx _ rfl).2 _ rfl
    exact iq_G_ret (fun _ => rfl)
set_option maxRecDepth 100000 in
theorem zL_law_293_ok (l : Nat)  (x4 : Int32) (I : iq_I) (J : iq_J) (X : iq_X)  {q : (Int32 × iq_I × iq_J × iq_X) ⊕ ((iq_I × iq_J × iq_X) ⊕ (Int32 × iq_I × iq_J × iq_X))} (h : zL_law_293 l x4 I J X = some q) (r : iq_R × iq_M) (hc : ∀ v, q = .inl v → iq_Gg 72 357 (23, [some (.ref 0), some (.ref 1), some (.ref 76), some (.ref 114), some (.int v.1), none, none, none], [], (iq_sh l, v.2.1, v.2.2.1, v.2.2.2)) r) (hx : ∀ w, q = .inr w → (∀ a, w = .inl a → iq_Gg 72 357 (2530, [none, none, none, none, none, none, none, none], [], (iq_sh l, a.1, a.2.1, a.2.2)) r) ∧ (∀ b, w = .inr b → r = (.inl (some (.int b.1)), (iq_sh l, b.2.1, b.2.2.1, b.2.2.2)))) : iq_Gg 72 357 (293, [some (.ref 0), some (.ref 1), some (.ref 76), some (.ref 114), some (.int x4), none, none, none], [], (iq_sh l, I, J, X)) r := by
  unfold zL_law_293 at h
  refine iq_G_go (k := 5) (σ' := (299, [some (.ref 0), some (.ref 1), some (.ref 76), some (.ref 114), some (.int x4), none, none, none], [.int (x4 + (1 : Int32)), .ref 0, .ref 1], (iq_sh l, I, J, X))) (fun _ => rfl) ?_
  obtain ⟨hc_, h⟩ := iq_itn h
  refine iq_G_pos (c := iq_in (x4 + (1 : Int32)) l) (σ1 := (300, [some (.ref 0), some (.ref 1), some (.ref 76), some (.ref 114), some (.int x4), none, none, none], [.int (I 0 (Int32.toNatClampNeg (x4 + (1 : Int32)))), .ref 1], (iq_sh l, I, J, X))) (fun _ => rfl) hc_ ?_
  refine iq_G_go (k := 1) (σ' := (301, [some (.ref 0), some (.ref 1), some (.ref 76), some (.ref 114), some (.int x4), none, none, none], [.ref 114, .int (I 0 (Int32.toNatClampNeg (x4 + (1 : Int32)))), .ref 1], (iq_sh l, I, J, X))) (fun _ => rfl) ?_
  obtain ⟨q3, hq3, h⟩ := iq_bnd h
  refine iq_G_call (σ' := (304, [some (.ref 0), some (.ref 1), some (.ref 76), some (.ref 114), some (.int x4), none, none, none], [.int q3.1], (iq_sh l, q3.2.1, q3.2.2.1, q3.2.2.2))) (fun _ => rfl) (zL_museum_ok l (I 0 (Int32.toNatClampNeg (x4 + (1 : Int32)))) I J X hq3) rfl rfl ?_
  refine iq_G_go (k := 6) (σ' := (312, [some (.ref 0), some (.ref 1), some (.ref 76), some (.ref 114), some (.int x4), some (.int q3.1), none, none], [.int (x4 + (1 : Int32)), .ref 0, .ref 76], (iq_sh l, q3.2.1, q3.2.2.1, q3.2.2.2))) (fun _ => rfl) ?_
  obtain ⟨hc_, h⟩ := iq_itn h
  refine iq_G_pos (c := iq_in (x4 + (1 : Int32)) l) (σ1 := (313, [some (.ref 0), some (.ref 1), some (.ref 76), some (.ref 114), some (.int x4), some (.int q3.1), none, none], [.int (q3.2.1 0 (Int32.toNatClampNeg (x4 + (1 : Int32)))), .ref 76], (iq_sh l, q3.2.1, q3.2.2.1, q3.2.2.2))) (fun _ => rfl) hc_ ?_
  obtain ⟨q4, hq4, h⟩ := iq_bnd h
  refine iq_G_call (σ' := (316, [some (.ref 0), some (.ref 1), some (.ref 76), some (.ref 114), some (.int x4), some (.int q3.1), none, none], [.int q4.1], (iq_sh l, q4.2.1, q4.2.2, q3.2.2.2))) (fun _ => rfl) (zM_museum_ok l (q3.2.1 0 (Int32.toNatClampNeg (x4 + (1 : Int32)))) q3.2.1 q3.2.2.1 q3.2.2.2 hq4) rfl rfl ?_
  refine iq_G_go (k := 2) (σ' := (319, [some (.ref 0), some (.ref 1), some (.ref 76), some (.ref 114), some (.int x4), some (.int q3.1), some (.int q4.1), none], [.ref 76], (iq_sh l, q4.2.1, q4.2.2, q3.2.2.2))) (fun _ => rfl) ?_
  obtain ⟨q5, hq5, h⟩ := iq_bnd h
  refine iq_G_call (σ' := (322, [some (.ref 0), some (.ref 1), some (.ref 76), some (.ref 114), some (.int x4), some (.int q3.1), some (.int q4.1), none], [.int q5], (iq_sh l, q4.2.1, q4.2.2, q3.2.2.2))) (fun _ => rfl) (zM_thrown_ok l  q4.2.1 q4.2.2 q3.2.2.2 hq5) rfl rfl ?_
  refine iq_G_go (k := 1) (σ' := (324, [some (.ref 0), some (.ref 1), some (.ref 76), some (.ref 114), some (.int x4), some (.int q3.1), some (.int q4.1), none], [.int q3.1, .int q5], (iq_sh l, q4.2.1, q4.2.2, q3.2.2.2))) (fun _ => rfl) ?_
  rcases iq_ite h with ⟨hc_, h⟩ | ⟨hc_, h⟩
  · refine iq_G_pos (c := q5 = q3.1) (σ1 := (329, [some (.ref 0), some (.ref 1), some (.ref 76), some (.ref 114), some (.int x4), some (.int q3.1), some (.int q4.1), none], [], (iq_sh l, q4.2.1, q4.2.2, q3.2.2.2))) (fun _ => rfl) hc_ ?_
    refine iq_G_go (k := 1) (σ' := (331, [some (.ref 0), some (.ref 1), some (.ref 76), some (.ref 114), some (.int x4), some (.int q3.1), some (.int q4.1), none], [.int q3.1], (iq_sh l, q4.2.1, q4.2.2, q3.2.2.2))) (fun _ => rfl) ?_
    rcases iq_ite h with ⟨hc_, h⟩ | ⟨hc_, h⟩
    · refine iq_G_pos (c := ¬ q3.1 = 0) (σ1 := (346, [some (.ref 0), some (.ref 1), some (.ref 76), some (.ref 114), some (.int x4), some (.int q3.1), some (.int q4.1), none], [], (iq_sh l, q4.2.1, q4.2.2, q3.2.2.2))) (fun _ => rfl) hc_ ?_
      refine iq_G_go (k := 1) (σ' := (2524, [some (.ref 0), some (.ref 1), some (.ref 76), some (.ref 114), some (.int x4), some (.int q3.1), some (.int q4.1), none], [], (iq_sh l, q4.2.1, q4.2.2, q3.2.2.2))) (fun _ => rfl) ?_
      refine iq_G_go (k := 2) (σ' := (23, [some (.ref 0), some (.ref 1), some (.ref 76), some (.ref 114), some (.int (x4 + (6 : Int32))), some (.int q3.1), some (.int q4.1), none], [], (iq_sh l, q4.2.1, q4.2.2, q3.2.2.2))) (fun _ => rfl) ?_
      cases h
      exact iq_G_fg (L := [some (.ref 0), some (.ref 1), some (.ref 76), some (.ref 114), some (.int (x4 + (6 : Int32))), none, none, none]) (And.intro rfl (And.intro rfl (And.intro rfl (And.intro rfl (And.intro rfl trivial))))) (hc ((x4 + (6 : Int32)), q4.2.1, q4.2.2, q3.2.2.2) rfl)
    · refine iq_G_neg (c := ¬ q3.1 = 0) (σ1 := (334, [some (.ref 0), some (.ref 1), some (.ref 76), some (.ref 114), some (.int x4), some (.int q3.1), some (.int q4.1), none], [], (iq_sh l, q4.2.1, q4.2.2, q3.2.2.2))) (fun _ => rfl) hc_ ?_
      refine iq_G_go (k := 2) (σ' := (336, [some (.ref 0), some (.ref 1), some (.ref 76), some (.ref 114), some (.int x4), some (.int q3.1), some (.int q4.1), none], [.int (0 : Int32), .ref 114], (iq_sh l, q4.2.1, q4.2.2, q3.2.2.2))) (fun _ => rfl) ?_
      refine iq_G_go (k := 1) (σ' := (337, [some (.ref 0), some (.ref 1), some (.ref 76), some (.ref 114), some (.int x4), some (.int q3.1), some (.int q4.1), none], [.long (q4.2.2 114 0)], (iq_sh l, q4.2.1, q4.2.2, q3.2.2.2))) (fun _ => rfl) ?_
      refine iq_G_go (k := 3) (σ' := (341, [some (.ref 0), some (.ref 1), some (.ref 76), some (.ref 114), some (.int x4), some (.int q3.1), some (.int q4.1), none], [.int (lg_cmp (q4.2.2 114 0) (Int32.toInt64 q4.1))], (iq_sh l, q4.2.1, q4.2.2, q3.2.2.2))) (fun _ => rfl) ?_
      rcases iq_ite h with ⟨hc_, h⟩ | ⟨hc_, h⟩
      · refine iq_G_pos (c := (lg_cmp (q4.2.2 114 0) (Int32.toInt64 q4.1)) = 0) (σ1 := (346, [some (.ref 0), some (.ref 1), some (.ref 76), some (.ref 114), some (.int x4), some (.int q3.1), some (.int q4.1), none], [], (iq_sh l, q4.2.1, q4.2.2, q3.2.2.2))) (fun _ => rfl) hc_ ?_
        refine iq_G_go (k := 1) (σ' := (2524, [some (.ref 0), some (.ref 1), some (.ref 76), some (.ref 114), some (.int x4), some (.int q3.1), some (.int q4.1), none], [], (iq_sh l, q4.2.1, q4.2.2, q3.2.2.2))) (fun _ => rfl) ?_
        refine iq_G_go (k := 2) (σ' := (23, [some (.ref 0), some (.ref 1), some (.ref 76), some (.ref 114), some (.int (x4 + (6 : Int32))), some (.int q3.1), some (.int q4.1), none], [], (iq_sh l, q4.2.1, q4.2.2, q3.2.2.2))) (fun _ => rfl) ?_
        cases h
        exact iq_G_fg (L := [some (.ref 0), some (.ref 1), some (.ref 76), some (.ref 114), some (.int (x4 + (6 : Int32))), none, none, none]) (And.intro rfl (And.intro rfl (And.intro rfl (And.intro rfl (And.intro rfl trivial))))) (hc ((x4 + (6 : Int32)), q4.2.1, q4.2.2, q3.2.2.2) rfl)
      · refine iq_G_neg (c := (lg_cmp (q4.2.2 114 0) (Int32.toInt64 q4.1)) = 0) (σ1 := (344, [some (.ref 0), some (.ref 1), some (.ref 76), some (.ref 114), some (.int x4), some (.int q3.1), some (.int q4.1), none], [], (iq_sh l, q4.2.1, q4.2.2, q3.2.2.2))) (fun _ => rfl) hc_ ?_
        refine iq_G_go (k := 1) (σ' := (345, [some (.ref 0), some (.ref 1), some (.ref 76), some (.ref 114), some (.int x4), some (.int q3.1), some (.int q4.1), none], [.int (0 : Int32)], (iq_sh l, q4.2.1, q4.2.2, q3.2.2.2))) (fun _ => rfl) ?_
        cases h
        obtain rfl := (hx _ rfl).2 _ rfl
        exact iq_G_ret (fun _ => rfl)
  · refine iq_G_neg (c := q5 = q3.1) (σ1 := (327, [some (.ref 0), some (.ref 1), some (.ref 76), some (.ref 114), some (.int x4), some (.int q3.1), some (.int q4.1), none], [], (iq_sh l, q4.2.1, q4.2.2, q3.2.2.2))) (fun _ => rfl) hc_ ?_
    refine iq_G_go (k := 1) (σ' := (328, [some (.ref 0), some (.ref 1), some (.ref 76), some (.ref 114), some (.int x4), some (.int q3.1), some (.int q4.1), none], [.int (0 : Int32)], (iq_sh l, q4.2.1, q4.2.2, q3.2.2.2))) (fun _ => rfl) ?_
    cases h
    obtain rfl := (hx _ rfl).2 _ rfl
    exact iq_G_ret (fun _ => rfl)
set_option maxRecDepth 100000 in
theorem zL_law_349_ok (l : Nat)  (x4 : Int32) (I : iq_I) (J : iq_J) (X : iq_X)  {q : (Int32 × iq_I × iq_J × iq_X) ⊕ ((iq_I × iq_J × iq_X) ⊕ (Int32 × iq_I × iq_J × iq_X))} (h : zL_law_349 l x4 I J X = some q) (r : iq_R × iq_M) (hc : ∀ v, q = .inl v → iq_Gg 72 357 (23, [some (.ref 0), some (.ref 1), some (.ref 76), some (.ref 114), some (.int v.1), none, none, none], [], (iq_sh l, v.2.1, v.2.2.1, v.2.2.2)) r) (hx : ∀ w, q = .inr w → (∀ a, w = .inl a → iq_Gg 72 357 (2530, [none, none, none, none, none, none, none, none], [], (iq_sh l, a.1, a.2.1, a.2.2)) r) ∧ (∀ b, w = .inr b → r = (.inl (some (.int b.1)), (iq_sh l, b.2.1, b.2.2.1, b.2.2.2)))) : iq_Gg 72 357 (349, [some (.ref 0), some (.ref 1), some (.ref 76), some (.ref 114), some (.int x4), none, none, none], [], (iq_sh l, I, J, X)) r := by
  unfold zL_law_349 at h
  refine iq_G_go (k := 1) (σ' := (350, [some (.ref 0), some (.ref 1), some (.ref 76), some (.ref 114), some (.int x4), none, none, none], [.ref 1], (iq_sh l, I, J, X))) (fun _ => rfl) ?_
  obtain ⟨q6, hq6, h⟩ := iq_bnd h
  refine iq_G_call (σ' := (353, [some (.ref 0), some (.ref 1), some (.ref 76), some (.ref 114), some (.int x4), none, none, none], [.int q6], (iq_sh l, I, J, X))) (fun _ => rfl) (zO_fault_ok l  I J X hq6) rfl rfl ?_
  refine iq_G_go (k := 1) (σ' := (354, [some (.ref 0), some (.ref 1), some (.ref 76), some (.ref 114), some (.int x4), none, none, none], [.ref 76, .int q6], (iq_sh l, I, J, X))) (fun _ => rfl) ?_
  obtain ⟨q7, hq7, h⟩ := iq_bnd h
  refine iq_G_call (σ' := (357, [some (.ref 0), some (.ref 1), some (.ref 76), some (.ref 114), some (.int x4), none, none, none], [.int q7.1, .int q6], (iq_sh l, q7.2, J, X))) (fun _ => rfl) (zM_fault_ok l  I J X hq7) rfl rfl ?_
  rcases iq_ite h with ⟨hc_, h⟩ | ⟨hc_, h⟩
  · refine iq_G_pos (c := q6 = q7.1) (σ1 := (2524, [some (.ref 0), some (.ref 1), some (.ref 76), some (.ref 114), some (.int x4), none, none, none], [], (iq_sh l, q7.2, J, X))) (fun _ => rfl) hc_ ?_
    refine iq_G_go (k := 2) (σ' := (23, [some (.ref 0), some (.ref 1), some (.ref 76), some (.ref 114), some (.int (x4 + (6 : Int32))), none, none, none], [], (iq_sh l, q7.2, J, X))) (fun _ => rfl) ?_
    cases h
    exact iq_G_fg (L := [some (.ref 0), some (.ref 1), some (.ref 76), some (.ref 114), some (.int (x4 + (6 : Int32))), none, none, none]) (And.intro rfl (And.intro rfl (And.intro rfl (And.intro rfl (And.intro rfl trivial))))) (hc ((x4 + (6 : Int32)), q7.2, J, X) rfl)
  · refine iq_G_neg (c := q6 = q7.1) (σ1 := (360, [some (.ref 0), some (.ref 1), some (.ref 76), some (.ref 114), some (.int x4), none, none, none], [], (iq_sh l, q7.2, J, X))) (fun _ => rfl) hc_ ?_
    refine iq_G_go (k := 1) (σ' := (361, [some (.ref 0), some (.ref 1), some (.ref 76), some (.ref 114), some (.int x4), none, none, none], [.int (0 : Int32)], (iq_sh l, q7.2, J, X))) (fun _ => rfl) ?_
    cases h
    obtain rfl := (hx _ rfl).2 _ rfl
    exact iq_G_ret (fun _ => rfl)
set_option maxRecDepth 100000 in
theorem zL_law_362_ok (l : Nat)  (x4 : Int32) (I : iq_I) (J : iq_J) (X : iq_X)  {q : (Int32 × iq_I × iq_J × iq_X) ⊕ ((iq_I × iq_J × iq_X) ⊕ (Int32 × iq_I × iq_J × iq_X))} (h : zL_law_362 l x4 I J X = some q) (r : iq_R × iq_M) (hc : ∀ v, q = .inl v → iq_Gg 72 357 (23, [some (.ref 0), some (.ref 1), some (.ref 76), some (.ref 114), some (.int v.1), none, none, none], [], (iq_sh l, v.2.1, v.2.2.1, v.2.2.2)) r) (hx : ∀ w, q = .inr w → (∀ a, w = .inl a → iq_Gg 72 357 (2530, [none, none, none, none, none, none, none, none], [], (iq_sh l, a.1, a.2.1, a.2.2)) r) ∧ (∀ b, w = .inr b → r = (.inl (some (.int b.1)), (iq_sh l, b.2.1, b.2.2.1, b.2.2.2)))) : iq_Gg 72 357 (362, [some (.ref 0), some (.ref 1), some (.ref 76), some (.ref 114), some (.int x4), none, none, none], [], (iq_sh l, I, J, X)) r := by
  unfold zL_law_362 at h
  refine iq_G_go (k := 5) (σ' := (368, [some (.ref 0), some (.ref 1), some (.ref 76), some (.ref 114), some (.int x4), none, none, none], [.int (x4 + (1 : Int32)), .ref 0, .ref 1], (iq_sh l, I, J, X))) (fun _ => rfl) ?_
  obtain ⟨hc_, h⟩ := iq_itn h
  refine iq_G_pos (c := iq_in (x4 + (1 : Int32)) l) (σ1 := (369, [some (.ref 0), some (.ref 1), some (.ref 76), some (.ref 114), some (.int x4), none, none, none], [.int (I 0 (Int32.toNatClampNeg (x4 + (1 : Int32)))), .ref 1], (iq_sh l, I, J, X))) (fun _ => rfl) hc_ ?_
  refine iq_G_go (k := 1) (σ' := (370, [some (.ref 0), some (.ref 1), some (.ref 76), some (.ref 114), some (.int x4), none, none, none], [.ref 114, .int (I 0 (Int32.toNatClampNeg (x4 + (1 : Int32)))), .ref 1], (iq_sh l, I, J, X))) (fun _ => rfl) ?_
  obtain ⟨q8, hq8, h⟩ := iq_bnd h
  refine iq_G_call (σ' := (373, [some (.ref 0), some (.ref 1), some (.ref 76), some (.ref 114), some (.int x4), none, none, none], [.int q8.1], (iq_sh l, I, q8.2.1, q8.2.2))) (fun _ => rfl) (zL_count_ok l (I 0 (Int32.toNatClampNeg (x4 + (1 : Int32)))) I J X hq8) rfl rfl ?_
  refine iq_G_go (k := 6) (σ' := (381, [some (.ref 0), some (.ref 1), some (.ref 76), some (.ref 114), some (.int x4), some (.int q8.1), none, none], [.int (x4 + (1 : Int32)), .ref 0, .ref 76], (iq_sh l, I, q8.2.1, q8.2.2))) (fun _ => rfl) ?_
  obtain ⟨hc_, h⟩ := iq_itn h
  refine iq_G_pos (c := iq_in (x4 + (1 : Int32)) l) (σ1 := (382, [some (.ref 0), some (.ref 1), some (.ref 76), some (.ref 114), some (.int x4), some (.int q8.1), none, none], [.int (I 0 (Int32.toNatClampNeg (x4 + (1 : Int32)))), .ref 76], (iq_sh l, I, q8.2.1, q8.2.2))) (fun _ => rfl) hc_ ?_
  obtain ⟨q9, hq9, h⟩ := iq_bnd h
  refine iq_G_call (σ' := (385, [some (.ref 0), some (.ref 1), some (.ref 76), some (.ref 114), some (.int x4), some (.int q8.1), none, none], [.int q9.1], (iq_sh l, q9.2, q8.2.1, q8.2.2))) (fun _ => rfl) (zM_count_ok l (I 0 (Int32.toNatClampNeg (x4 + (1 : Int32)))) I q8.2.1 q8.2.2 hq9) rfl rfl ?_
  refine iq_G_go (k := 2) (σ' := (388, [some (.ref 0), some (.ref 1), some (.ref 76), some (.ref 114), some (.int x4), some (.int q8.1), some (.int q9.1), none], [.ref 76], (iq_sh l, q9.2, q8.2.1, q8.2.2))) (fun _ => rfl) ?_
  obtain ⟨q10, hq10, h⟩ := iq_bnd h
  refine iq_G_call (σ' := (391, [some (.ref 0), some (.ref 1), some (.ref 76), some (.ref 114), some (.int x4), some (.int q8.1), some (.int q9.1), none], [.int q10], (iq_sh l, q9.2, q8.2.1, q8.2.2))) (fun _ => rfl) (zM_thrown_ok l  q9.2 q8.2.1 q8.2.2 hq10) rfl rfl ?_
  refine iq_G_go (k := 1) (σ' := (393, [some (.ref 0), some (.ref 1), some (.ref 76), some (.ref 114), some (.int x4), some (.int q8.1), some (.int q9.1), none], [.int q8.1, .int q10], (iq_sh l, q9.2, q8.2.1, q8.2.2))) (fun _ => rfl) ?_
  rcases iq_ite h with ⟨hc_, h⟩ | ⟨hc_, h⟩
  · refine iq_G_pos (c := q10 = q8.1) (σ1 := (398, [some (.ref 0), some (.ref 1), some (.ref 76), some (.ref 114), some (.int x4), some (.int q8.1), some (.int q9.1), none], [], (iq_sh l, q9.2, q8.2.1, q8.2.2))) (fun _ => rfl) hc_ ?_
    refine iq_G_go (k := 1) (σ' := (400, [some (.ref 0), some (.ref 1), some (.ref 76), some (.ref 114), some (.int x4), some (.int q8.1), some (.int q9.1), none], [.int q8.1], (iq_sh l, q9.2, q8.2.1, q8.2.2))) (fun _ => rfl) ?_
    rcases iq_ite h with ⟨hc_, h⟩ | ⟨hc_, h⟩
    · refine iq_G_pos (c := ¬ q8.1 = 0) (σ1 := (415, [some (.ref 0), some (.ref 1), some (.ref 76), some (.ref 114), some (.int x4), some (.int q8.1), some (.int q9.1), none], [], (iq_sh l, q9.2, q8.2.1, q8.2.2))) (fun _ => rfl) hc_ ?_
      refine iq_G_go (k := 1) (σ' := (2524, [some (.ref 0), some (.ref 1), some (.ref 76), some (.ref 114), some (.int x4), some (.int q8.1), some (.int q9.1), none], [], (iq_sh l, q9.2, q8.2.1, q8.2.2))) (fun _ => rfl) ?_
      refine iq_G_go (k := 2) (σ' := (23, [some (.ref 0), some (.ref 1), some (.ref 76), some (.ref 114), some (.int (x4 + (6 : Int32))), some (.int q8.1), some (.int q9.1), none], [], (iq_sh l, q9.2, q8.2.1, q8.2.2))) (fun _ => rfl) ?_
      cases h
      exact iq_G_fg (L := [some (.ref 0), some (.ref 1), some (.ref 76), some (.ref 114), some (.int (x4 + (6 : Int32))), none, none, none]) (And.intro rfl (And.intro rfl (And.intro rfl (And.intro rfl (And.intro rfl trivial))))) (hc ((x4 + (6 : Int32)), q9.2, q8.2.1, q8.2.2) rfl)
    · refine iq_G_neg (c := ¬ q8.1 = 0) (σ1 := (403, [some (.ref 0), some (.ref 1), some (.ref 76), some (.ref 114), some (.int x4), some (.int q8.1), some (.int q9.1), none], [], (iq_sh l, q9.2, q8.2.1, q8.2.2))) (fun _ => rfl) hc_ ?_
      refine iq_G_go (k := 2) (σ' := (405, [some (.ref 0), some (.ref 1), some (.ref 76), some (.ref 114), some (.int x4), some (.int q8.1), some (.int q9.1), none], [.int (0 : Int32), .ref 114], (iq_sh l, q9.2, q8.2.1, q8.2.2))) (fun _ => rfl) ?_
      refine iq_G_go (k := 1) (σ' := (406, [some (.ref 0), some (.ref 1), some (.ref 76), some (.ref 114), some (.int x4), some (.int q8.1), some (.int q9.1), none], [.long (q8.2.1 114 0)], (iq_sh l, q9.2, q8.2.1, q8.2.2))) (fun _ => rfl) ?_
      refine iq_G_go (k := 3) (σ' := (410, [some (.ref 0), some (.ref 1), some (.ref 76), some (.ref 114), some (.int x4), some (.int q8.1), some (.int q9.1), none], [.int (lg_cmp (q8.2.1 114 0) (Int32.toInt64 q9.1))], (iq_sh l, q9.2, q8.2.1, q8.2.2))) (fun _ => rfl) ?_
      rcases iq_ite h with ⟨hc_, h⟩ | ⟨hc_, h⟩
      · refine iq_G_pos (c := (lg_cmp (q8.2.1 114 0) (Int32.toInt64 q9.1)) = 0) (σ1 := (415, [some (.ref 0), some (.ref 1), some (.ref 76), some (.ref 114), some (.int x4), some (.int q8.1), some (.int q9.1), none], [], (iq_sh l, q9.2, q8.2.1, q8.2.2))) (fun _ => rfl) hc_ ?_
        refine iq_G_go (k := 1) (σ' := (2524, [some (.ref 0), some (.ref 1), some (.ref 76), some (.ref 114), some (.int x4), some (.int q8.1), some (.int q9.1), none], [], (iq_sh l, q9.2, q8.2.1, q8.2.2))) (fun _ => rfl) ?_
        refine iq_G_go (k := 2) (σ' := (23, [some (.ref 0), some (.ref 1), some (.ref 76), some (.ref 114), some (.int (x4 + (6 : Int32))), some (.int q8.1), some (.int q9.1), none], [], (iq_sh l, q9.2, q8.2.1, q8.2.2))) (fun _ => rfl) ?_
        cases h
        exact iq_G_fg (L := [some (.ref 0), some (.ref 1), some (.ref 76), some (.ref 114), some (.int (x4 + (6 : Int32))), none, none, none]) (And.intro rfl (And.intro rfl (And.intro rfl (And.intro rfl (And.intro rfl trivial))))) (hc ((x4 + (6 : Int32)), q9.2, q8.2.1, q8.2.2) rfl)
      · refine iq_G_neg (c := (lg_cmp (q8.2.1 114 0) (Int32.toInt64 q9.1)) = 0) (σ1 := (413, [some (.ref 0), some (.ref 1), some (.ref 76), some (.ref 114), some (.int x4), some (.int q8.1), some (.int q9.1), none], [], (iq_sh l, q9.2, q8.2.1, q8.2.2))) (fun _ => rfl) hc_ ?_
        refine iq_G_go (k := 1) (σ' := (414, [some (.ref 0), some (.ref 1), some (.ref 76), some (.ref 114), some (.int x4), some (.int q8.1), some (.int q9.1), none], [.int (0 : Int32)], (iq_sh l, q9.2, q8.2.1, q8.2.2))) (fun _ => rfl) ?_
        cases h
        obtain rfl := (hx _ rfl).2 _ rfl
        exact iq_G_ret (fun _ => rfl)
  · refine iq_G_neg (c := q10 = q8.1) (σ1 := (396, [some (.ref 0), some (.ref 1), some (.ref 76), some (.ref 114), some (.int x4), some (.int q8.1), some (.int q9.1), none], [], (iq_sh l, q9.2, q8.2.1, q8.2.2))) (fun _ => rfl) hc_ ?_
    refine iq_G_go (k := 1) (σ' := (397, [some (.ref 0), some (.ref 1), some (.ref 76), some (.ref 114), some (.int x4), some (.int q8.1), some (.int q9.1), none], [.int (0 : Int32)], (iq_sh l, q9.2, q8.2.1, q8.2.2))) (fun _ => rfl) ?_
    cases h
    obtain rfl := (hx _ rfl).2 _ rfl
    exact iq_G_ret (fun _ => rfl)
set_option maxRecDepth 100000 in
theorem zL_law_418_ok (l : Nat)  (x4 : Int32) (I : iq_I) (J : iq_J) (X : iq_X)  {q : (Int32 × iq_I × iq_J × iq_X) ⊕ ((iq_I × iq_J × iq_X) ⊕ (Int32 × iq_I × iq_J × iq_X))} (h : zL_law_418 l x4 I J X = some q) (r : iq_R × iq_M) (hc : ∀ v, q = .inl v → iq_Gg 72 357 (23, [some (.ref 0), some (.ref 1), some (.ref 76), some (.ref 114), some (.int v.1), none, none, none], [], (iq_sh l, v.2.1, v.2.2.1, v.2.2.2)) r) (hx : ∀ w, q = .inr w → (∀ a, w = .inl a → iq_Gg 72 357 (2530, [none, none, none, none, none, none, none, none], [], (iq_sh l, a.1, a.2.1, a.2.2)) r) ∧ (∀ b, w = .inr b → r = (.inl (some (.int b.1)), (iq_sh l, b.2.1, b.2.2.1, b.2.2.2)))) : iq_Gg 72 357 (418, [some (.ref 0), some (.ref 1), some (.ref 76), some (.ref 114), some (.int x4), none, none, none], [], (iq_sh l, I, J, X)) r := by
  unfold zL_law_418 at h
  refine iq_G_go (k := 5) (σ' := (424, [some (.ref 0), some (.ref 1), some (.ref 76), some (.ref 114), some (.int x4), none, none, none], [.int (x4 + (1 : Int32)), .ref 0, .ref 1], (iq_sh l, I, J, X))) (fun _ => rfl) ?_
  obtain ⟨hc_, h⟩ := iq_itn h
  refine iq_G_pos (c := iq_in (x4 + (1 : Int32)) l) (σ1 := (425, [some (.ref 0), some (.ref 1), some (.ref 76), some (.ref 114), some (.int x4), none, none, none], [.int (I 0 (Int32.toNatClampNeg (x4 + (1 : Int32)))), .ref 1], (iq_sh l, I, J, X))) (fun _ => rfl) hc_ ?_
  refine iq_G_go (k := 4) (σ' := (430, [some (.ref 0), some (.ref 1), some (.ref 76), some (.ref 114), some (.int x4), none, none, none], [.int (x4 + (2 : Int32)), .ref 0, .int (I 0 (Int32.toNatClampNeg (x4 + (1 : Int32)))), .ref 1], (iq_sh l, I, J, X))) (fun _ => rfl) ?_
  obtain ⟨hc_, h⟩ := iq_itn h
  refine iq_G_pos (c := iq_in (x4 + (2 : Int32)) l) (σ1 := (431, [some (.ref 0), some (.ref 1), some (.ref 76), some (.ref 114), some (.int x4), none, none, none], [.int (I 0 (Int32.toNatClampNeg (x4 + (2 : Int32)))), .int (I 0 (Int32.toNatClampNeg (x4 + (1 : Int32)))), .ref 1], (iq_sh l, I, J, X))) (fun _ => rfl) hc_ ?_
  refine iq_G_go (k := 1) (σ' := (432, [some (.ref 0), some (.ref 1), some (.ref 76), some (.ref 114), some (.int x4), none, none, none], [.ref 114, .int (I 0 (Int32.toNatClampNeg (x4 + (2 : Int32)))), .int (I 0 (Int32.toNatClampNeg (x4 + (1 : Int32)))), .ref 1], (iq_sh l, I, J, X))) (fun _ => rfl) ?_
  obtain ⟨q11, hq11, h⟩ := iq_bnd h
  refine iq_G_call (σ' := (435, [some (.ref 0), some (.ref 1), some (.ref 76), some (.ref 114), some (.int x4), none, none, none], [.int q11.1], (iq_sh l, I, q11.2.1, q11.2.2))) (fun _ => rfl) (zL_letter_ok l (I 0 (Int32.toNatClampNeg (x4 + (1 : Int32)))) (I 0 (Int32.toNatClampNeg (x4 + (2 : Int32)))) I J X hq11) rfl rfl ?_
  refine iq_G_go (k := 6) (σ' := (443, [some (.ref 0), some (.ref 1), some (.ref 76), some (.ref 114), some (.int x4), some (.int q11.1), none, none], [.int (x4 + (1 : Int32)), .ref 0, .ref 76], (iq_sh l, I, q11.2.1, q11.2.2))) (fun _ => rfl) ?_
  obtain ⟨hc_, h⟩ := iq_itn h
  refine iq_G_pos (c := iq_in (x4 + (1 : Int32)) l) (σ1 := (444, [some (.ref 0), some (.ref 1), some (.ref 76), some (.ref 114), some (.int x4), some (.int q11.1), none, none], [.int (I 0 (Int32.toNatClampNeg (x4 + (1 : Int32)))), .ref 76], (iq_sh l, I, q11.2.1, q11.2.2))) (fun _ => rfl) hc_ ?_
  refine iq_G_go (k := 4) (σ' := (449, [some (.ref 0), some (.ref 1), some (.ref 76), some (.ref 114), some (.int x4), some (.int q11.1), none, none], [.int (x4 + (2 : Int32)), .ref 0, .int (I 0 (Int32.toNatClampNeg (x4 + (1 : Int32)))), .ref 76], (iq_sh l, I, q11.2.1, q11.2.2))) (fun _ => rfl) ?_
  obtain ⟨hc_, h⟩ := iq_itn h
  refine iq_G_pos (c := iq_in (x4 + (2 : Int32)) l) (σ1 := (450, [some (.ref 0), some (.ref 1), some (.ref 76), some (.ref 114), some (.int x4), some (.int q11.1), none, none], [.int (I 0 (Int32.toNatClampNeg (x4 + (2 : Int32)))), .int (I 0 (Int32.toNatClampNeg (x4 + (1 : Int32)))), .ref 76], (iq_sh l, I, q11.2.1, q11.2.2))) (fun _ => rfl) hc_ ?_
  obtain ⟨q12, hq12, h⟩ := iq_bnd h
  refine iq_G_call (σ' := (453, [some (.ref 0), some (.ref 1), some (.ref 76), some (.ref 114), some (.int x4), some (.int q11.1), none, none], [.int q12.1], (iq_sh l, q12.2, q11.2.1, q11.2.2))) (fun _ => rfl) (zM_letter_ok l (I 0 (Int32.toNatClampNeg (x4 + (1 : Int32)))) (I 0 (Int32.toNatClampNeg (x4 + (2 : Int32)))) I q11.2.1 q11.2.2 hq12) rfl rfl ?_
  refine iq_G_go (k := 2) (σ' := (456, [some (.ref 0), some (.ref 1), some (.ref 76), some (.ref 114), some (.int x4), some (.int q11.1), some (.int q12.1), none], [.ref 76], (iq_sh l, q12.2, q11.2.1, q11.2.2))) (fun _ => rfl) ?_
  obtain ⟨q13, hq13, h⟩ := iq_bnd h
  refine iq_G_call (σ' := (459, [some (.ref 0), some (.ref 1), some (.ref 76), some (.ref 114), some (.int x4), some (.int q11.1), some (.int q12.1), none], [.int q13], (iq_sh l, q12.2, q11.2.1, q11.2.2))) (fun _ => rfl) (zM_thrown_ok l  q12.2 q11.2.1 q11.2.2 hq13) rfl rfl ?_
  refine iq_G_go (k := 1) (σ' := (461, [some (.ref 0), some (.ref 1), some (.ref 76), some (.ref 114), some (.int x4), some (.int q11.1), some (.int q12.1), none], [.int q11.1, .int q13], (iq_sh l, q12.2, q11.2.1, q11.2.2))) (fun _ => rfl) ?_
  rcases iq_ite h with ⟨hc_, h⟩ | ⟨hc_, h⟩
  · refine iq_G_pos (c := q13 = q11.1) (σ1 := (466, [some (.ref 0), some (.ref 1), some (.ref 76), some (.ref 114), some (.int x4), some (.int q11.1), some (.int q12.1), none], [], (iq_sh l, q12.2, q11.2.1, q11.2.2))) (fun _ => rfl) hc_ ?_
    refine iq_G_go (k := 1) (σ' := (468, [some (.ref 0), some (.ref 1), some (.ref 76), some (.ref 114), some (.int x4), some (.int q11.1), some (.int q12.1), none], [.int q11.1], (iq_sh l, q12.2, q11.2.1, q11.2.2))) (fun _ => rfl) ?_
    rcases iq_ite h with ⟨hc_, h⟩ | ⟨hc_, h⟩
    · refine iq_G_pos (c := ¬ q11.1 = 0) (σ1 := (483, [some (.ref 0), some (.ref 1), some (.ref 76), some (.ref 114), some (.int x4), some (.int q11.1), some (.int q12.1), none], [], (iq_sh l, q12.2, q11.2.1, q11.2.2))) (fun _ => rfl) hc_ ?_
      refine iq_G_go (k := 1) (σ' := (2524, [some (.ref 0), some (.ref 1), some (.ref 76), some (.ref 114), some (.int x4), some (.int q11.1), some (.int q12.1), none], [], (iq_sh l, q12.2, q11.2.1, q11.2.2))) (fun _ => rfl) ?_
      refine iq_G_go (k := 2) (σ' := (23, [some (.ref 0), some (.ref 1), some (.ref 76), some (.ref 114), some (.int (x4 + (6 : Int32))), some (.int q11.1), some (.int q12.1), none], [], (iq_sh l, q12.2, q11.2.1, q11.2.2))) (fun _ => rfl) ?_
      cases h
      exact iq_G_fg (L := [some (.ref 0), some (.ref 1), some (.ref 76), some (.ref 114), some (.int (x4 + (6 : Int32))), none, none, none]) (And.intro rfl (And.intro rfl (And.intro rfl (And.intro rfl (And.intro rfl trivial))))) (hc ((x4 + (6 : Int32)), q12.2, q11.2.1, q11.2.2) rfl)
    · refine iq_G_neg (c := ¬ q11.1 = 0) (σ1 := (471, [some (.ref 0), some (.ref 1), some (.ref 76), some (.ref 114), some (.int x4), some (.int q11.1), some (.int q12.1), none], [], (iq_sh l, q12.2, q11.2.1, q11.2.2))) (fun _ => rfl) hc_ ?_
      refine iq_G_go (k := 2) (σ' := (473, [some (.ref 0), some (.ref 1), some (.ref 76), some (.ref 114), some (.int x4), some (.int q11.1), some (.int q12.1), none], [.int (0 : Int32), .ref 114], (iq_sh l, q12.2, q11.2.1, q11.2.2))) (fun _ => rfl) ?_
      refine iq_G_go (k := 1) (σ' := (474, [some (.ref 0), some (.ref 1), some (.ref 76), some (.ref 114), some (.int x4), some (.int q11.1), some (.int q12.1), none], [.long (q11.2.1 114 0)], (iq_sh l, q12.2, q11.2.1, q11.2.2))) (fun _ => rfl) ?_
      refine iq_G_go (k := 3) (σ' := (478, [some (.ref 0), some (.ref 1), some (.ref 76), some (.ref 114), some (.int x4), some (.int q11.1), some (.int q12.1), none], [.int (lg_cmp (q11.2.1 114 0) (Int32.toInt64 q12.1))], (iq_sh l, q12.2, q11.2.1, q11.2.2))) (fun _ => rfl) ?_
      rcases iq_ite h with ⟨hc_, h⟩ | ⟨hc_, h⟩
      · refine iq_G_pos (c := (lg_cmp (q11.2.1 114 0) (Int32.toInt64 q12.1)) = 0) (σ1 := (483, [some (.ref 0), some (.ref 1), some (.ref 76), some (.ref 114), some (.int x4), some (.int q11.1), some (.int q12.1), none], [], (iq_sh l, q12.2, q11.2.1, q11.2.2))) (fun _ => rfl) hc_ ?_
        refine iq_G_go (k := 1) (σ' := (2524, [some (.ref 0), some (.ref 1), some (.ref 76), some (.ref 114), some (.int x4), some (.int q11.1), some (.int q12.1), none], [], (iq_sh l, q12.2, q11.2.1, q11.2.2))) (fun _ => rfl) ?_
        refine iq_G_go (k := 2) (σ' := (23, [some (.ref 0), some (.ref 1), some (.ref 76), some (.ref 114), some (.int (x4 + (6 : Int32))), some (.int q11.1), some (.int q12.1), none], [], (iq_sh l, q12.2, q11.2.1, q11.2.2))) (fun _ => rfl) ?_
        cases h
        exact iq_G_fg (L := [some (.ref 0), some (.ref 1), some (.ref 76), some (.ref 114), some (.int (x4 + (6 : Int32))), none, none, none]) (And.intro rfl (And.intro rfl (And.intro rfl (And.intro rfl (And.intro rfl trivial))))) (hc ((x4 + (6 : Int32)), q12.2, q11.2.1, q11.2.2) rfl)
      · refine iq_G_neg (c := (lg_cmp (q11.2.1 114 0) (Int32.toInt64 q12.1)) = 0) (σ1 := (481, [some (.ref 0), some (.ref 1), some (.ref 76), some (.ref 114), some (.int x4), some (.int q11.1), some (.int q12.1), none], [], (iq_sh l, q12.2, q11.2.1, q11.2.2))) (fun _ => rfl) hc_ ?_
        refine iq_G_go (k := 1) (σ' := (482, [some (.ref 0), some (.ref 1), some (.ref 76), some (.ref 114), some (.int x4), some (.int q11.1), some (.int q12.1), none], [.int (0 : Int32)], (iq_sh l, q12.2, q11.2.1, q11.2.2))) (fun _ => rfl) ?_
        cases h
        obtain rfl := (hx _ rfl).2 _ rfl
        exact iq_G_ret (fun _ => rfl)
  · refine iq_G_neg (c := q13 = q11.1) (σ1 := (464, [some (.ref 0), some (.ref 1), some (.ref 76), some (.ref 114), some (.int x4), some (.int q11.1), some (.int q12.1), none], [], (iq_sh l, q12.2, q11.2.1, q11.2.2))) (fun _ => rfl) hc_ ?_
    refine iq_G_go (k := 1) (σ' := (465, [some (.ref 0), some (.ref 1), some (.ref 76), some (.ref 114), some (.int x4), some (.int q11.1), some (.int q12.1), none], [.int (0 : Int32)], (iq_sh l, q12.2, q11.2.1, q11.2.2))) (fun _ => rfl) ?_
    cases h
    obtain rfl := (hx _ rfl).2 _ rfl
    exact iq_G_ret (fun _ => rfl)
set_option maxRecDepth 100000 in
theorem zL_law_486_ok (l : Nat)  (x4 : Int32) (I : iq_I) (J : iq_J) (X : iq_X)  {q : (Int32 × iq_I × iq_J × iq_X) ⊕ ((iq_I × iq_J × iq_X) ⊕ (Int32 × iq_I × iq_J × iq_X))} (h : zL_law_486 l x4 I J X = some q) (r : iq_R × iq_M) (hc : ∀ v, q = .inl v → iq_Gg 72 357 (23, [some (.ref 0), some (.ref 1), some (.ref 76), some (.ref 114), some (.int v.1), none, none, none], [], (iq_sh l, v.2.1, v.2.2.1, v.2.2.2)) r) (hx : ∀ w, q = .inr w → (∀ a, w = .inl a → iq_Gg 72 357 (2530, [none, none, none, none, none, none, none, none], [], (iq_sh l, a.1, a.2.1, a.2.2)) r) ∧ (∀ b, w = .inr b → r = (.inl (some (.int b.1)), (iq_sh l, b.2.1, b.2.2.1, b.2.2.2)))) : iq_Gg 72 357 (486, [some (.ref 0), some (.ref 1), some (.ref 76), some (.ref 114), some (.int x4), none, none, none], [], (iq_sh l, I, J, X)) r := by
  unfold zL_law_486 at h
  refine iq_G_go (k := 5) (σ' := (492, [some (.ref 0), some (.ref 1), some (.ref 76), some (.ref 114), some (.int x4), none, none, none], [.int (x4 + (1 : Int32)), .ref 0, .ref 1], (iq_sh l, I, J, X))) (fun _ => rfl) ?_
  obtain ⟨hc_, h⟩ := iq_itn h
  refine iq_G_pos (c := iq_in (x4 + (1 : Int32)) l) (σ1 := (493, [some (.ref 0), some (.ref 1), some (.ref 76), some (.ref 114), some (.int x4), none, none, none], [.int (I 0 (Int32.toNatClampNeg (x4 + (1 : Int32)))), .ref 1], (iq_sh l, I, J, X))) (fun _ => rfl) hc_ ?_
  refine iq_G_go (k := 1) (σ' := (494, [some (.ref 0), some (.ref 1), some (.ref 76), some (.ref 114), some (.int x4), none, none, none], [.ref 114, .int (I 0 (Int32.toNatClampNeg (x4 + (1 : Int32)))), .ref 1], (iq_sh l, I, J, X))) (fun _ => rfl) ?_
  obtain ⟨q14, hq14, h⟩ := iq_bnd h
  refine iq_G_call (σ' := (497, [some (.ref 0), some (.ref 1), some (.ref 76), some (.ref 114), some (.int x4), none, none, none], [.int q14.1], (iq_sh l, I, q14.2.1, q14.2.2))) (fun _ => rfl) (zL_kind_ok l (I 0 (Int32.toNatClampNeg (x4 + (1 : Int32)))) I J X hq14) rfl rfl ?_
  refine iq_G_go (k := 6) (σ' := (505, [some (.ref 0), some (.ref 1), some (.ref 76), some (.ref 114), some (.int x4), some (.int q14.1), none, none], [.int (x4 + (1 : Int32)), .ref 0, .ref 76], (iq_sh l, I, q14.2.1, q14.2.2))) (fun _ => rfl) ?_
  obtain ⟨hc_, h⟩ := iq_itn h
  refine iq_G_pos (c := iq_in (x4 + (1 : Int32)) l) (σ1 := (506, [some (.ref 0), some (.ref 1), some (.ref 76), some (.ref 114), some (.int x4), some (.int q14.1), none, none], [.int (I 0 (Int32.toNatClampNeg (x4 + (1 : Int32)))), .ref 76], (iq_sh l, I, q14.2.1, q14.2.2))) (fun _ => rfl) hc_ ?_
  obtain ⟨q15, hq15, h⟩ := iq_bnd h
  refine iq_G_call (σ' := (509, [some (.ref 0), some (.ref 1), some (.ref 76), some (.ref 114), some (.int x4), some (.int q14.1), none, none], [.int q15.1], (iq_sh l, q15.2, q14.2.1, q14.2.2))) (fun _ => rfl) (zM_kind_ok l (I 0 (Int32.toNatClampNeg (x4 + (1 : Int32)))) I q14.2.1 q14.2.2 hq15) rfl rfl ?_
  refine iq_G_go (k := 2) (σ' := (512, [some (.ref 0), some (.ref 1), some (.ref 76), some (.ref 114), some (.int x4), some (.int q14.1), some (.int q15.1), none], [.ref 76], (iq_sh l, q15.2, q14.2.1, q14.2.2))) (fun _ => rfl) ?_
  obtain ⟨q16, hq16, h⟩ := iq_bnd h
  refine iq_G_call (σ' := (515, [some (.ref 0), some (.ref 1), some (.ref 76), some (.ref 114), some (.int x4), some (.int q14.1), some (.int q15.1), none], [.int q16], (iq_sh l, q15.2, q14.2.1, q14.2.2))) (fun _ => rfl) (zM_thrown_ok l  q15.2 q14.2.1 q14.2.2 hq16) rfl rfl ?_
  refine iq_G_go (k := 1) (σ' := (517, [some (.ref 0), some (.ref 1), some (.ref 76), some (.ref 114), some (.int x4), some (.int q14.1), some (.int q15.1), none], [.int q14.1, .int q16], (iq_sh l, q15.2, q14.2.1, q14.2.2))) (fun _ => rfl) ?_
  rcases iq_ite h with ⟨hc_, h⟩ | ⟨hc_, h⟩
  · refine iq_G_pos (c := q16 = q14.1) (σ1 := (522, [some (.ref 0), some (.ref 1), some (.ref 76), some (.ref 114), some (.int x4), some (.int q14.1), some (.int q15.1), none], [], (iq_sh l, q15.2, q14.2.1, q14.2.2))) (fun _ => rfl) hc_ ?_
    refine iq_G_go (k := 1) (σ' := (524, [some (.ref 0), some (.ref 1), some (.ref 76), some (.ref 114), some (.int x4), some (.int q14.1), some (.int q15.1), none], [.int q14.1], (iq_sh l, q15.2, q14.2.1, q14.2.2))) (fun _ => rfl) ?_
    rcases iq_ite h with ⟨hc_, h⟩ | ⟨hc_, h⟩
    · refine iq_G_pos (c := ¬ q14.1 = 0) (σ1 := (539, [some (.ref 0), some (.ref 1), some (.ref 76), some (.ref 114), some (.int x4), some (.int q14.1), some (.int q15.1), none], [], (iq_sh l, q15.2, q14.2.1, q14.2.2))) (fun _ => rfl) hc_ ?_
      refine iq_G_go (k := 1) (σ' := (2524, [some (.ref 0), some (.ref 1), some (.ref 76), some (.ref 114), some (.int x4), some (.int q14.1), some (.int q15.1), none], [], (iq_sh l, q15.2, q14.2.1, q14.2.2))) (fun _ => rfl) ?_
      refine iq_G_go (k := 2) (σ' := (23, [some (.ref 0), some (.ref 1), some (.ref 76), some (.ref 114), some (.int (x4 + (6 : Int32))), some (.int q14.1), some (.int q15.1), none], [], (iq_sh l, q15.2, q14.2.1, q14.2.2))) (fun _ => rfl) ?_
      cases h
      exact iq_G_fg (L := [some (.ref 0), some (.ref 1), some (.ref 76), some (.ref 114), some (.int (x4 + (6 : Int32))), none, none, none]) (And.intro rfl (And.intro rfl (And.intro rfl (And.intro rfl (And.intro rfl trivial))))) (hc ((x4 + (6 : Int32)), q15.2, q14.2.1, q14.2.2) rfl)
    · refine iq_G_neg (c := ¬ q14.1 = 0) (σ1 := (527, [some (.ref 0), some (.ref 1), some (.ref 76), some (.ref 114), some (.int x4), some (.int q14.1), some (.int q15.1), none], [], (iq_sh l, q15.2, q14.2.1, q14.2.2))) (fun _ => rfl) hc_ ?_
      refine iq_G_go (k := 2) (σ' := (529, [some (.ref 0), some (.ref 1), some (.ref 76), some (.ref 114), some (.int x4), some (.int q14.1), some (.int q15.1), none], [.int (0 : Int32), .ref 114], (iq_sh l, q15.2, q14.2.1, q14.2.2))) (fun _ => rfl) ?_
      refine iq_G_go (k := 1) (σ' := (530, [some (.ref 0), some (.ref 1), some (.ref 76), some (.ref 114), some (.int x4), some (.int q14.1), some (.int q15.1), none], [.long (q14.2.1 114 0)], (iq_sh l, q15.2, q14.2.1, q14.2.2))) (fun _ => rfl) ?_
      refine iq_G_go (k := 3) (σ' := (534, [some (.ref 0), some (.ref 1), some (.ref 76), some (.ref 114), some (.int x4), some (.int q14.1), some (.int q15.1), none], [.int (lg_cmp (q14.2.1 114 0) (Int32.toInt64 q15.1))], (iq_sh l, q15.2, q14.2.1, q14.2.2))) (fun _ => rfl) ?_
      rcases iq_ite h with ⟨hc_, h⟩ | ⟨hc_, h⟩
      · refine iq_G_pos (c := (lg_cmp (q14.2.1 114 0) (Int32.toInt64 q15.1)) = 0) (σ1 := (539, [some (.ref 0), some (.ref 1), some (.ref 76), some (.ref 114), some (.int x4), some (.int q14.1), some (.int q15.1), none], [], (iq_sh l, q15.2, q14.2.1, q14.2.2))) (fun _ => rfl) hc_ ?_
        refine iq_G_go (k := 1) (σ' := (2524, [some (.ref 0), some (.ref 1), some (.ref 76), some (.ref 114), some (.int x4), some (.int q14.1), some (.int q15.1), none], [], (iq_sh l, q15.2, q14.2.1, q14.2.2))) (fun _ => rfl) ?_
        refine iq_G_go (k := 2) (σ' := (23, [some (.ref 0), some (.ref 1), some (.ref 76), some (.ref 114), some (.int (x4 + (6 : Int32))), some (.int q14.1), some (.int q15.1), none], [], (iq_sh l, q15.2, q14.2.1, q14.2.2))) (fun _ => rfl) ?_
        cases h
        exact iq_G_fg (L := [some (.ref 0), some (.ref 1), some (.ref 76), some (.ref 114), some (.int (x4 + (6 : Int32))), none, none, none]) (And.intro rfl (And.intro rfl (And.intro rfl (And.intro rfl (And.intro rfl trivial))))) (hc ((x4 + (6 : Int32)), q15.2, q14.2.1, q14.2.2) rfl)
      · refine iq_G_neg (c := (lg_cmp (q14.2.1 114 0) (Int32.toInt64 q15.1)) = 0) (σ1 := (537, [some (.ref 0), some (.ref 1), some (.ref 76), some (.ref 114), some (.int x4), some (.int q14.1), some (.int q15.1), none], [], (iq_sh l, q15.2, q14.2.1, q14.2.2))) (fun _ => rfl) hc_ ?_
        refine iq_G_go (k := 1) (σ' := (538, [some (.ref 0), some (.ref 1), some (.ref 76), some (.ref 114), some (.int x4), some (.int q14.1), some (.int q15.1), none], [.int (0 : Int32)], (iq_sh l, q15.2, q14.2.1, q14.2.2))) (fun _ => rfl) ?_
        cases h
        obtain rfl := (hx _ rfl).2 _ rfl
        exact iq_G_ret (fun _ => rfl)
  · refine iq_G_neg (c := q16 = q14.1) (σ1 := (520, [some (.ref 0), some (.ref 1), some (.ref 76), some (.ref 114), some (.int x4), some (.int q14.1), some (.int q15.1), none], [], (iq_sh l, q15.2, q14.2.1, q14.2.2))) (fun _ => rfl) hc_ ?_
    refine iq_G_go (k := 1) (σ' := (521, [some (.ref 0), some (.ref 1), some (.ref 76), some (.ref 114), some (.int x4), some (.int q14.1), some (.int q15.1), none], [.int (0 : Int32)], (iq_sh l, q15.2, q14.2.1, q14.2.2))) (fun _ => rfl) ?_
    cases h
    obtain rfl := (hx _ rfl).2 _ rfl
    exact iq_G_ret (fun _ => rfl)
set_option maxRecDepth 100000 in
theorem zL_law_542_ok (l : Nat)  (x4 : Int32) (I : iq_I) (J : iq_J) (X : iq_X)  {q : (Int32 × iq_I × iq_J × iq_X) ⊕ ((iq_I × iq_J × iq_X) ⊕ (Int32 × iq_I × iq_J × iq_X))} (h : zL_law_542 l x4 I J X = some q) (r : iq_R × iq_M) (hc : ∀ v, q = .inl v → iq_Gg 72 357 (23, [some (.ref 0), some (.ref 1), some (.ref 76), some (.ref 114), some (.int v.1), none, none, none], [], (iq_sh l, v.2.1, v.2.2.1, v.2.2.2)) r) (hx : ∀ w, q = .inr w → (∀ a, w = .inl a → iq_Gg 72 357 (2530, [none, none, none, none, none, none, none, none], [], (iq_sh l, a.1, a.2.1, a.2.2)) r) ∧ (∀ b, w = .inr b → r = (.inl (some (.int b.1)), (iq_sh l, b.2.1, b.2.2.1, b.2.2.2)))) : iq_Gg 72 357 (542, [some (.ref 0), some (.ref 1), some (.ref 76), some (.ref 114), some (.int x4), none, none, none], [], (iq_sh l, I, J, X)) r := by
  unfold zL_law_542 at h
  refine iq_G_go (k := 5) (σ' := (548, [some (.ref 0), some (.ref 1), some (.ref 76), some (.ref 114), some (.int x4), none, none, none], [.int (x4 + (1 : Int32)), .ref 0, .ref 1], (iq_sh l, I, J, X))) (fun _ => rfl) ?_
  obtain ⟨hc_, h⟩ := iq_itn h
  refine iq_G_pos (c := iq_in (x4 + (1 : Int32)) l) (σ1 := (549, [some (.ref 0), some (.ref 1), some (.ref 76), some (.ref 114), some (.int x4), none, none, none], [.int (I 0 (Int32.toNatClampNeg (x4 + (1 : Int32)))), .ref 1], (iq_sh l, I, J, X))) (fun _ => rfl) hc_ ?_
  refine iq_G_go (k := 4) (σ' := (554, [some (.ref 0), some (.ref 1), some (.ref 76), some (.ref 114), some (.int x4), none, none, none], [.int (x4 + (2 : Int32)), .ref 0, .int (I 0 (Int32.toNatClampNeg (x4 + (1 : Int32)))), .ref 1], (iq_sh l, I, J, X))) (fun _ => rfl) ?_
  obtain ⟨hc_, h⟩ := iq_itn h
  refine iq_G_pos (c := iq_in (x4 + (2 : Int32)) l) (σ1 := (555, [some (.ref 0), some (.ref 1), some (.ref 76), some (.ref 114), some (.int x4), none, none, none], [.int (I 0 (Int32.toNatClampNeg (x4 + (2 : Int32)))), .int (I 0 (Int32.toNatClampNeg (x4 + (1 : Int32)))), .ref 1], (iq_sh l, I, J, X))) (fun _ => rfl) hc_ ?_
  refine iq_G_go (k := 1) (σ' := (556, [some (.ref 0), some (.ref 1), some (.ref 76), some (.ref 114), some (.int x4), none, none, none], [.ref 114, .int (I 0 (Int32.toNatClampNeg (x4 + (2 : Int32)))), .int (I 0 (Int32.toNatClampNeg (x4 + (1 : Int32)))), .ref 1], (iq_sh l, I, J, X))) (fun _ => rfl) ?_
  obtain ⟨q17, hq17, h⟩ := iq_bnd h
  refine iq_G_call (σ' := (559, [some (.ref 0), some (.ref 1), some (.ref 76), some (.ref 114), some (.int x4), none, none, none], [.int q17.1], (iq_sh l, I, q17.2.1, q17.2.2))) (fun _ => rfl) (zL_arc_ok l (I 0 (Int32.toNatClampNeg (x4 + (1 : Int32)))) (I 0 (Int32.toNatClampNeg (x4 + (2 : Int32)))) I J X hq17) rfl rfl ?_
  refine iq_G_go (k := 6) (σ' := (567, [some (.ref 0), some (.ref 1), some (.ref 76), some (.ref 114), some (.int x4), some (.int q17.1), none, none], [.int (x4 + (1 : Int32)), .ref 0, .ref 76], (iq_sh l, I, q17.2.1, q17.2.2))) (fun _ => rfl) ?_
  obtain ⟨hc_, h⟩ := iq_itn h
  refine iq_G_pos (c := iq_in (x4 + (1 : Int32)) l) (σ1 := (568, [some (.ref 0), some (.ref 1), some (.ref 76), some (.ref 114), some (.int x4), some (.int q17.1), none, none], [.int (I 0 (Int32.toNatClampNeg (x4 + (1 : Int32)))), .ref 76], (iq_sh l, I, q17.2.1, q17.2.2))) (fun _ => rfl) hc_ ?_
  refine iq_G_go (k := 4) (σ' := (573, [some (.ref 0), some (.ref 1), some (.ref 76), some (.ref 114), some (.int x4), some (.int q17.1), none, none], [.int (x4 + (2 : Int32)), .ref 0, .int (I 0 (Int32.toNatClampNeg (x4 + (1 : Int32)))), .ref 76], (iq_sh l, I, q17.2.1, q17.2.2))) (fun _ => rfl) ?_
  obtain ⟨hc_, h⟩ := iq_itn h
  refine iq_G_pos (c := iq_in (x4 + (2 : Int32)) l) (σ1 := (574, [some (.ref 0), some (.ref 1), some (.ref 76), some (.ref 114), some (.int x4), some (.int q17.1), none, none], [.int (I 0 (Int32.toNatClampNeg (x4 + (2 : Int32)))), .int (I 0 (Int32.toNatClampNeg (x4 + (1 : Int32)))), .ref 76], (iq_sh l, I, q17.2.1, q17.2.2))) (fun _ => rfl) hc_ ?_
  obtain ⟨q18, hq18, h⟩ := iq_bnd h
  refine iq_G_call (σ' := (577, [some (.ref 0), some (.ref 1), some (.ref 76), some (.ref 114), some (.int x4), some (.int q17.1), none, none], [.int q18.1], (iq_sh l, q18.2, q17.2.1, q17.2.2))) (fun _ => rfl) (zM_arc_ok l (I 0 (Int32.toNatClampNeg (x4 + (1 : Int32)))) (I 0 (Int32.toNatClampNeg (x4 + (2 : Int32)))) I q17.2.1 q17.2.2 hq18) rfl rfl ?_
  refine iq_G_go (k := 2) (σ' := (580, [some (.ref 0), some (.ref 1), some (.ref 76), some (.ref 114), some (.int x4), some (.int q17.1), some (.int q18.1), none], [.ref 76], (iq_sh l, q18.2, q17.2.1, q17.2.2))) (fun _ => rfl) ?_
  obtain ⟨q19, hq19, h⟩ := iq_bnd h
  refine iq_G_call (σ' := (583, [some (.ref 0), some (.ref 1), some (.ref 76), some (.ref 114), some (.int x4), some (.int q17.1), some (.int q18.1), none], [.int q19], (iq_sh l, q18.2, q17.2.1, q17.2.2))) (fun _ => rfl) (zM_thrown_ok l  q18.2 q17.2.1 q17.2.2 hq19) rfl rfl ?_
  refine iq_G_go (k := 1) (σ' := (585, [some (.ref 0), some (.ref 1), some (.ref 76), some (.ref 114), some (.int x4), some (.int q17.1), some (.int q18.1), none], [.int q17.1, .int q19], (iq_sh l, q18.2, q17.2.1, q17.2.2))) (fun _ => rfl) ?_
  rcases iq_ite h with ⟨hc_, h⟩ | ⟨hc_, h⟩
  · refine iq_G_pos (c := q19 = q17.1) (σ1 := (590, [some (.ref 0), some (.ref 1), some (.ref 76), some (.ref 114), some (.int x4), some (.int q17.1), some (.int q18.1), none], [], (iq_sh l, q18.2, q17.2.1, q17.2.2))) (fun _ => rfl) hc_ ?_
    refine iq_G_go (k := 1) (σ' := (592, [some (.ref 0), some (.ref 1), some (.ref 76), some (.ref 114), some (.int x4), some (.int q17.1), some (.int q18.1), none], [.int q17.1], (iq_sh l, q18.2, q17.2.1, q17.2.2))) (fun _ => rfl) ?_
    rcases iq_ite h with ⟨hc_, h⟩ | ⟨hc_, h⟩
    · refine iq_G_pos (c := ¬ q17.1 = 0) (σ1 := (607, [some (.ref 0), some (.ref 1), some (.ref 76), some (.ref 114), some (.int x4), some (.int q17.1), some (.int q18.1), none], [], (iq_sh l, q18.2, q17.2.1, q17.2.2))) (fun _ => rfl) hc_ ?_
      refine iq_G_go (k := 1) (σ' := (2524, [some (.ref 0), some (.ref 1), some (.ref 76), some (.ref 114), some (.int x4), some (.int q17.1), some (.int q18.1), none], [], (iq_sh l, q18.2, q17.2.1, q17.2.2))) (fun _ => rfl) ?_
      refine iq_G_go (k := 2) (σ' := (23, [some (.ref 0), some (.ref 1), some (.ref 76), some (.ref 114), some (.int (x4 + (6 : Int32))), some (.int q17.1), some (.int q18.1), none], [], (iq_sh l, q18.2, q17.2.1, q17.2.2))) (fun _ => rfl) ?_
      cases h
      exact iq_G_fg (L := [some (.ref 0), some (.ref 1), some (.ref 76), some (.ref 114), some (.int (x4 + (6 : Int32))), none, none, none]) (And.intro rfl (And.intro rfl (And.intro rfl (And.intro rfl (And.intro rfl trivial))))) (hc ((x4 + (6 : Int32)), q18.2, q17.2.1, q17.2.2) rfl)
    · refine iq_G_neg (c := ¬ q17.1 = 0) (σ1 := (595, [some (.ref 0), some (.ref 1), some (.ref 76), some (.ref 114), some (.int x4), some (.int q17.1), some (.int q18.1), none], [], (iq_sh l, q18.2, q17.2.1, q17.2.2))) (fun _ => rfl) hc_ ?_
      refine iq_G_go (k := 2) (σ' := (597, [some (.ref 0), some (.ref 1), some (.ref 76), some (.ref 114), some (.int x4), some (.int q17.1), some (.int q18.1), none], [.int (0 : Int32), .ref 114], (iq_sh l, q18.2, q17.2.1, q17.2.2))) (fun _ => rfl) ?_
      refine iq_G_go (k := 1) (σ' := (598, [some (.ref 0), some (.ref 1), some (.ref 76), some (.ref 114), some (.int x4), some (.int q17.1), some (.int q18.1), none], [.long (q17.2.1 114 0)], (iq_sh l, q18.2, q17.2.1, q17.2.2))) (fun _ => rfl) ?_
      refine iq_G_go (k := 3) (σ' := (602, [some (.ref 0), some (.ref 1), some (.ref 76), some (.ref 114), some (.int x4), some (.int q17.1), some (.int q18.1), none], [.int (lg_cmp (q17.2.1 114 0) (Int32.toInt64 q18.1))], (iq_sh l, q18.2, q17.2.1, q17.2.2))) (fun _ => rfl) ?_
      rcases iq_ite h with ⟨hc_, h⟩ | ⟨hc_, h⟩
      · refine iq_G_pos (c := (lg_cmp (q17.2.1 114 0) (Int32.toInt64 q18.1)) = 0) (σ1 := (607, [some (.ref 0), some (.ref 1), some (.ref 76), some (.ref 114), some (.int x4), some (.int q17.1), some (.int q18.1), none], [], (iq_sh l, q18.2, q17.2.1, q17.2.2))) (fun _ => rfl) hc_ ?_
        refine iq_G_go (k := 1) (σ' := (2524, [some (.ref 0), some (.ref 1), some (.ref 76), some (.ref 114), some (.int x4), some (.int q17.1), some (.int q18.1), none], [], (iq_sh l, q18.2, q17.2.1, q17.2.2))) (fun _ => rfl) ?_
        refine iq_G_go (k := 2) (σ' := (23, [some (.ref 0), some (.ref 1), some (.ref 76), some (.ref 114), some (.int (x4 + (6 : Int32))), some (.int q17.1), some (.int q18.1), none], [], (iq_sh l, q18.2, q17.2.1, q17.2.2))) (fun _ => rfl) ?_
        cases h
        exact iq_G_fg (L := [some (.ref 0), some (.ref 1), some (.ref 76), some (.ref 114), some (.int (x4 + (6 : Int32))), none, none, none]) (And.intro rfl (And.intro rfl (And.intro rfl (And.intro rfl (And.intro rfl trivial))))) (hc ((x4 + (6 : Int32)), q18.2, q17.2.1, q17.2.2) rfl)
      · refine iq_G_neg (c := (lg_cmp (q17.2.1 114 0) (Int32.toInt64 q18.1)) = 0) (σ1 := (605, [some (.ref 0), some (.ref 1), some (.ref 76), some (.ref 114), some (.int x4), some (.int q17.1), some (.int q18.1), none], [], (iq_sh l, q18.2, q17.2.1, q17.2.2))) (fun _ => rfl) hc_ ?_
        refine iq_G_go (k := 1) (σ' := (606, [some (.ref 0), some (.ref 1), some (.ref 76), some (.ref 114), some (.int x4), some (.int q17.1), some (.int q18.1), none], [.int (0 : Int32)], (iq_sh l, q18.2, q17.2.1, q17.2.2))) (fun _ => rfl) ?_
        cases h
        obtain rfl := (hx _ rfl).2 _ rfl
        exact iq_G_ret (fun _ => rfl)
  · refine iq_G_neg (c := q19 = q17.1) (σ1 := (588, [some (.ref 0), some (.ref 1), some (.ref 76), some (.ref 114), some (.int x4), some (.int q17.1), some (.int q18.1), none], [], (iq_sh l, q18.2, q17.2.1, q17.2.2))) (fun _ => rfl) hc_ ?_
    refine iq_G_go (k := 1) (σ' := (589, [some (.ref 0), some (.ref 1), some (.ref 76), some (.ref 114), some (.int x4), some (.int q17.1), some (.int q18.1), none], [.int (0 : Int32)], (iq_sh l, q18.2, q17.2.1, q17.2.2))) (fun _ => rfl) ?_
    cases h
    obtain rfl := (hx _ rfl).2 _ rfl
    exact iq_G_ret (fun _ => rfl)
set_option maxRecDepth 100000 in
theorem zL_law_610_ok (l : Nat)  (x4 : Int32) (I : iq_I) (J : iq_J) (X : iq_X)  {q : (Int32 × iq_I × iq_J × iq_X) ⊕ ((iq_I × iq_J × iq_X) ⊕ (Int32 × iq_I × iq_J × iq_X))} (h : zL_law_610 l x4 I J X = some q) (r : iq_R × iq_M) (hc : ∀ v, q = .inl v → iq_Gg 72 357 (23, [some (.ref 0), some (.ref 1), some (.ref 76), some (.ref 114), some (.int v.1), none, none, none], [], (iq_sh l, v.2.1, v.2.2.1, v.2.2.2)) r) (hx : ∀ w, q = .inr w → (∀ a, w = .inl a → iq_Gg 72 357 (2530, [none, none, none, none, none, none, none, none], [], (iq_sh l, a.1, a.2.1, a.2.2)) r) ∧ (∀ b, w = .inr b → r = (.inl (some (.int b.1)), (iq_sh l, b.2.1, b.2.2.1, b.2.2.2)))) : iq_Gg 72 357 (610, [some (.ref 0), some (.ref 1), some (.ref 76), some (.ref 114), some (.int x4), none, none, none], [], (iq_sh l, I, J, X)) r := by
  unfold zL_law_610 at h
  refine iq_G_go (k := 5) (σ' := (616, [some (.ref 0), some (.ref 1), some (.ref 76), some (.ref 114), some (.int x4), none, none, none], [.int (x4 + (1 : Int32)), .ref 0, .ref 1], (iq_sh l, I, J, X))) (fun _ => rfl) ?_
  obtain ⟨hc_, h⟩ := iq_itn h
  refine iq_G_pos (c := iq_in (x4 + (1 : Int32)) l) (σ1 := (617, [some (.ref 0), some (.ref 1), some (.ref 76), some (.ref 114), some (.int x4), none, none, none], [.int (I 0 (Int32.toNatClampNeg (x4 + (1 : Int32)))), .ref 1], (iq_sh l, I, J, X))) (fun _ => rfl) hc_ ?_
  refine iq_G_go (k := 4) (σ' := (622, [some (.ref 0), some (.ref 1), some (.ref 76), some (.ref 114), some (.int x4), none, none, none], [.int (x4 + (2 : Int32)), .ref 0, .int (I 0 (Int32.toNatClampNeg (x4 + (1 : Int32)))), .ref 1], (iq_sh l, I, J, X))) (fun _ => rfl) ?_
  obtain ⟨hc_, h⟩ := iq_itn h
  refine iq_G_pos (c := iq_in (x4 + (2 : Int32)) l) (σ1 := (623, [some (.ref 0), some (.ref 1), some (.ref 76), some (.ref 114), some (.int x4), none, none, none], [.int (I 0 (Int32.toNatClampNeg (x4 + (2 : Int32)))), .int (I 0 (Int32.toNatClampNeg (x4 + (1 : Int32)))), .ref 1], (iq_sh l, I, J, X))) (fun _ => rfl) hc_ ?_
  refine iq_G_go (k := 1) (σ' := (624, [some (.ref 0), some (.ref 1), some (.ref 76), some (.ref 114), some (.int x4), none, none, none], [.ref 114, .int (I 0 (Int32.toNatClampNeg (x4 + (2 : Int32)))), .int (I 0 (Int32.toNatClampNeg (x4 + (1 : Int32)))), .ref 1], (iq_sh l, I, J, X))) (fun _ => rfl) ?_
  obtain ⟨q20, hq20, h⟩ := iq_bnd h
  refine iq_G_call (σ' := (627, [some (.ref 0), some (.ref 1), some (.ref 76), some (.ref 114), some (.int x4), none, none, none], [.int q20.1], (iq_sh l, I, q20.2.1, q20.2.2))) (fun _ => rfl) (zL_saying_ok l (I 0 (Int32.toNatClampNeg (x4 + (1 : Int32)))) (I 0 (Int32.toNatClampNeg (x4 + (2 : Int32)))) I J X hq20) rfl rfl ?_
  refine iq_G_go (k := 6) (σ' := (635, [some (.ref 0), some (.ref 1), some (.ref 76), some (.ref 114), some (.int x4), some (.int q20.1), none, none], [.int (x4 + (1 : Int32)), .ref 0, .ref 76], (iq_sh l, I, q20.2.1, q20.2.2))) (fun _ => rfl) ?_
  obtain ⟨hc_, h⟩ := iq_itn h
  refine iq_G_pos (c := iq_in (x4 + (1 : Int32)) l) (σ1 := (636, [some (.ref 0), some (.ref 1), some (.ref 76), some (.ref 114), some (.int x4), some (.int q20.1), none, none], [.int (I 0 (Int32.toNatClampNeg (x4 + (1 : Int32)))), .ref 76], (iq_sh l, I, q20.2.1, q20.2.2))) (fun _ => rfl) hc_ ?_
  refine iq_G_go (k := 4) (σ' := (641, [some (.ref 0), some (.ref 1), some (.ref 76), some (.ref 114), some (.int x4), some (.int q20.1), none, none], [.int (x4 + (2 : Int32)), .ref 0, .int (I 0 (Int32.toNatClampNeg (x4 + (1 : Int32)))), .ref 76], (iq_sh l, I, q20.2.1, q20.2.2))) (fun _ => rfl) ?_
  obtain ⟨hc_, h⟩ := iq_itn h
  refine iq_G_pos (c := iq_in (x4 + (2 : Int32)) l) (σ1 := (642, [some (.ref 0), some (.ref 1), some (.ref 76), some (.ref 114), some (.int x4), some (.int q20.1), none, none], [.int (I 0 (Int32.toNatClampNeg (x4 + (2 : Int32)))), .int (I 0 (Int32.toNatClampNeg (x4 + (1 : Int32)))), .ref 76], (iq_sh l, I, q20.2.1, q20.2.2))) (fun _ => rfl) hc_ ?_
  obtain ⟨q21, hq21, h⟩ := iq_bnd h
  refine iq_G_call (σ' := (645, [some (.ref 0), some (.ref 1), some (.ref 76), some (.ref 114), some (.int x4), some (.int q20.1), none, none], [.int q21.1], (iq_sh l, q21.2, q20.2.1, q20.2.2))) (fun _ => rfl) (zM_saying_ok l (I 0 (Int32.toNatClampNeg (x4 + (1 : Int32)))) (I 0 (Int32.toNatClampNeg (x4 + (2 : Int32)))) I q20.2.1 q20.2.2 hq21) rfl rfl ?_
  refine iq_G_go (k := 2) (σ' := (648, [some (.ref 0), some (.ref 1), some (.ref 76), some (.ref 114), some (.int x4), some (.int q20.1), some (.int q21.1), none], [.ref 76], (iq_sh l, q21.2, q20.2.1, q20.2.2))) (fun _ => rfl) ?_
  obtain ⟨q22, hq22, h⟩ := iq_bnd h
  refine iq_G_call (σ' := (651, [some (.ref 0), some (.ref 1), some (.ref 76), some (.ref 114), some (.int x4), some (.int q20.1), some (.int q21.1), none], [.int q22], (iq_sh l, q21.2, q20.2.1, q20.2.2))) (fun _ => rfl) (zM_thrown_ok l  q21.2 q20.2.1 q20.2.2 hq22) rfl rfl ?_
  refine iq_G_go (k := 1) (σ' := (653, [some (.ref 0), some (.ref 1), some (.ref 76), some (.ref 114), some (.int x4), some (.int q20.1), some (.int q21.1), none], [.int q20.1, .int q22], (iq_sh l, q21.2, q20.2.1, q20.2.2))) (fun _ => rfl) ?_
  rcases iq_ite h with ⟨hc_, h⟩ | ⟨hc_, h⟩
  · refine iq_G_pos (c := q22 = q20.1) (σ1 := (658, [some (.ref 0), some (.ref 1), some (.ref 76), some (.ref 114), some (.int x4), some (.int q20.1), some (.int q21.1), none], [], (iq_sh l, q21.2, q20.2.1, q20.2.2))) (fun _ => rfl) hc_ ?_
    refine iq_G_go (k := 1) (σ' := (660, [some (.ref 0), some (.ref 1), some (.ref 76), some (.ref 114), some (.int x4), some (.int q20.1), some (.int q21.1), none], [.int q20.1], (iq_sh l, q21.2, q20.2.1, q20.2.2))) (fun _ => rfl) ?_
    rcases iq_ite h with ⟨hc_, h⟩ | ⟨hc_, h⟩
    · refine iq_G_pos (c := ¬ q20.1 = 0) (σ1 := (675, [some (.ref 0), some (.ref 1), some (.ref 76), some (.ref 114), some (.int x4), some (.int q20.1), some (.int q21.1), none], [], (iq_sh l, q21.2, q20.2.1, q20.2.2))) (fun _ => rfl) hc_ ?_
      refine iq_G_go (k := 1) (σ' := (2524, [some (.ref 0), some (.ref 1), some (.ref 76), some (.ref 114), some (.int x4), some (.int q20.1), some (.int q21.1), none], [], (iq_sh l, q21.2, q20.2.1, q20.2.2))) (fun _ => rfl) ?_
      refine iq_G_go (k := 2) (σ' := (23, [some (.ref 0), some (.ref 1), some (.ref 76), some (.ref 114), some (.int (x4 + (6 : Int32))), some (.int q20.1), some (.int q21.1), none], [], (iq_sh l, q21.2, q20.2.1, q20.2.2))) (fun _ => rfl) ?_
      cases h
      exact iq_G_fg (L := [some (.ref 0), some (.ref 1), some (.ref 76), some (.ref 114), some (.int (x4 + (6 : Int32))), none, none, none]) (And.intro rfl (And.intro rfl (And.intro rfl (And.intro rfl (And.intro rfl trivial))))) (hc ((x4 + (6 : Int32)), q21.2, q20.2.1, q20.2.2) rfl)
    · refine iq_G_neg (c := ¬ q20.1 = 0) (σ1 := (663, [some (.ref 0), some (.ref 1), some (.ref 76), some (.ref 114), some (.int x4), some (.int q20.1), some (.int q21.1), none], [], (iq_sh l, q21.2, q20.2.1, q20.2.2))) (fun _ => rfl) hc_ ?_
      refine iq_G_go (k := 2) (σ' := (665, [some (.ref 0), some (.ref 1), some (.ref 76), some (.ref 114), some (.int x4), some (.int q20.1), some (.int q21.1), none], [.int (0 : Int32), .ref 114], (iq_sh l, q21.2, q20.2.1, q20.2.2))) (fun _ => rfl) ?_
      refine iq_G_go (k := 1) (σ' := (666, [some (.ref 0), some (.ref 1), some (.ref 76), some (.ref 114), some (.int x4), some (.int q20.1), some (.int q21.1), none], [.long (q20.2.1 114 0)], (iq_sh l, q21.2, q20.2.1, q20.2.2))) (fun _ => rfl) ?_
      refine iq_G_go (k := 3) (σ' := (670, [some (.ref 0), some (.ref 1), some (.ref 76), some (.ref 114), some (.int x4), some (.int q20.1), some (.int q21.1), none], [.int (lg_cmp (q20.2.1 114 0) (Int32.toInt64 q21.1))], (iq_sh l, q21.2, q20.2.1, q20.2.2))) (fun _ => rfl) ?_
      rcases iq_ite h with ⟨hc_, h⟩ | ⟨hc_, h⟩
      · refine iq_G_pos (c := (lg_cmp (q20.2.1 114 0) (Int32.toInt64 q21.1)) = 0) (σ1 := (675, [some (.ref 0), some (.ref 1), some (.ref 76), some (.ref 114), some (.int x4), some (.int q20.1), some (.int q21.1), none], [], (iq_sh l, q21.2, q20.2.1, q20.2.2))) (fun _ => rfl) hc_ ?_
        refine iq_G_go (k := 1) (σ' := (2524, [some (.ref 0), some (.ref 1), some (.ref 76), some (.ref 114), some (.int x4), some (.int q20.1), some (.int q21.1), none], [], (iq_sh l, q21.2, q20.2.1, q20.2.2))) (fun _ => rfl) ?_
        refine iq_G_go (k := 2) (σ' := (23, [some (.ref 0), some (.ref 1), some (.ref 76), some (.ref 114), some (.int (x4 + (6 : Int32))), some (.int q20.1), some (.int q21.1), none], [], (iq_sh l, q21.2, q20.2.1, q20.2.2))) (fun _ => rfl) ?_
        cases h
        exact iq_G_fg (L := [some (.ref 0), some (.ref 1), some (.ref 76), some (.ref 114), some (.int (x4 + (6 : Int32))), none, none, none]) (And.intro rfl (And.intro rfl (And.intro rfl (And.intro rfl (And.intro rfl trivial))))) (hc ((x4 + (6 : Int32)), q21.2, q20.2.1, q20.2.2) rfl)
      · refine iq_G_neg (c := (lg_cmp (q20.2.1 114 0) (Int32.toInt64 q21.1)) = 0) (σ1 := (673, [some (.ref 0), some (.ref 1), some (.ref 76), some (.ref 114), some (.int x4), some (.int q20.1), some (.int q21.1), none], [], (iq_sh l, q21.2, q20.2.1, q20.2.2))) (fun _ => rfl) hc_ ?_
        refine iq_G_go (k := 1) (σ' := (674, [some (.ref 0), some (.ref 1), some (.ref 76), some (.ref 114), some (.int x4), some (.int q20.1), some (.int q21.1), none], [.int (0 : Int32)], (iq_sh l, q21.2, q20.2.1, q20.2.2))) (fun _ => rfl) ?_
        cases h
        obtain rfl := (hx _ rfl).2 _ rfl
        exact iq_G_ret (fun _ => rfl)
  · refine iq_G_neg (c := q22 = q20.1) (σ1 := (656, [some (.ref 0), some (.ref 1), some (.ref 76), some (.ref 114), some (.int x4), some (.int q20.1), some (.int q21.1), none], [], (iq_sh l, q21.2, q20.2.1, q20.2.2))) (fun _ => rfl) hc_ ?_
    refine iq_G_go (k := 1) (σ' := (657, [some (.ref 0), some (.ref 1), some (.ref 76), some (.ref 114), some (.int x4), some (.int q20.1), some (.int q21.1), none], [.int (0 : Int32)], (iq_sh l, q21.2, q20.2.1, q20.2.2))) (fun _ => rfl) ?_
    cases h
    obtain rfl := (hx _ rfl).2 _ rfl
    exact iq_G_ret (fun _ => rfl)
set_option maxRecDepth 100000 in
theorem zL_law_678_ok (l : Nat)  (x4 : Int32) (I : iq_I) (J : iq_J) (X : iq_X)  {q : (Int32 × iq_I × iq_J × iq_X) ⊕ ((iq_I × iq_J × iq_X) ⊕ (Int32 × iq_I × iq_J × iq_X))} (h : zL_law_678 l x4 I J X = some q) (r : iq_R × iq_M) (hc : ∀ v, q = .inl v → iq_Gg 72 357 (23, [some (.ref 0), some (.ref 1), some (.ref 76), some (.ref 114), some (.int v.1), none, none, none], [], (iq_sh l, v.2.1, v.2.2.1, v.2.2.2)) r) (hx : ∀ w, q = .inr w → (∀ a, w = .inl a → iq_Gg 72 357 (2530, [none, none, none, none, none, none, none, none], [], (iq_sh l, a.1, a.2.1, a.2.2)) r) ∧ (∀ b, w = .inr b → r = (.inl (some (.int b.1)), (iq_sh l, b.2.1, b.2.2.1, b.2.2.2)))) : iq_Gg 72 357 (678, [some (.ref 0), some (.ref 1), some (.ref 76), some (.ref 114), some (.int x4), none, none, none], [], (iq_sh l, I, J, X)) r := by
  unfold zL_law_678 at h
  refine iq_G_go (k := 5) (σ' := (684, [some (.ref 0), some (.ref 1), some (.ref 76), some (.ref 114), some (.int x4), none, none, none], [.int (x4 + (1 : Int32)), .ref 0, .ref 1], (iq_sh l, I, J, X))) (fun _ => rfl) ?_
  obtain ⟨hc_, h⟩ := iq_itn h
  refine iq_G_pos (c := iq_in (x4 + (1 : Int32)) l) (σ1 := (685, [some (.ref 0), some (.ref 1), some (.ref 76), some (.ref 114), some (.int x4), none, none, none], [.int (I 0 (Int32.toNatClampNeg (x4 + (1 : Int32)))), .ref 1], (iq_sh l, I, J, X))) (fun _ => rfl) hc_ ?_
  refine iq_G_go (k := 1) (σ' := (686, [some (.ref 0), some (.ref 1), some (.ref 76), some (.ref 114), some (.int x4), none, none, none], [.ref 114, .int (I 0 (Int32.toNatClampNeg (x4 + (1 : Int32)))), .ref 1], (iq_sh l, I, J, X))) (fun _ => rfl) ?_
  obtain ⟨q23, hq23, h⟩ := iq_bnd h
  refine iq_G_call (σ' := (689, [some (.ref 0), some (.ref 1), some (.ref 76), some (.ref 114), some (.int x4), none, none, none], [.int q23.1], (iq_sh l, q23.2.1, q23.2.2.1, q23.2.2.2))) (fun _ => rfl) (zL_may_ok l (I 0 (Int32.toNatClampNeg (x4 + (1 : Int32)))) I J X hq23) rfl rfl ?_
  refine iq_G_go (k := 6) (σ' := (697, [some (.ref 0), some (.ref 1), some (.ref 76), some (.ref 114), some (.int x4), some (.int q23.1), none, none], [.int (x4 + (1 : Int32)), .ref 0, .ref 76], (iq_sh l, q23.2.1, q23.2.2.1, q23.2.2.2))) (fun _ => rfl) ?_
  obtain ⟨hc_, h⟩ := iq_itn h
  refine iq_G_pos (c := iq_in (x4 + (1 : Int32)) l) (σ1 := (698, [some (.ref 0), some (.ref 1), some (.ref 76), some (.ref 114), some (.int x4), some (.int q23.1), none, none], [.int (q23.2.1 0 (Int32.toNatClampNeg (x4 + (1 : Int32)))), .ref 76], (iq_sh l, q23.2.1, q23.2.2.1, q23.2.2.2))) (fun _ => rfl) hc_ ?_
  obtain ⟨q24, hq24, h⟩ := iq_bnd h
  refine iq_G_call (σ' := (701, [some (.ref 0), some (.ref 1), some (.ref 76), some (.ref 114), some (.int x4), some (.int q23.1), none, none], [.int q24.1], (iq_sh l, q24.2, q23.2.2.1, q23.2.2.2))) (fun _ => rfl) (zM_may_ok l (q23.2.1 0 (Int32.toNatClampNeg (x4 + (1 : Int32)))) q23.2.1 q23.2.2.1 q23.2.2.2 hq24) rfl rfl ?_
  refine iq_G_go (k := 2) (σ' := (704, [some (.ref 0), some (.ref 1), some (.ref 76), some (.ref 114), some (.int x4), some (.int q23.1), some (.int q24.1), none], [.ref 76], (iq_sh l, q24.2, q23.2.2.1, q23.2.2.2))) (fun _ => rfl) ?_
  obtain ⟨q25, hq25, h⟩ := iq_bnd h
  refine iq_G_call (σ' := (707, [some (.ref 0), some (.ref 1), some (.ref 76), some (.ref 114), some (.int x4), some (.int q23.1), some (.int q24.1), none], [.int q25], (iq_sh l, q24.2, q23.2.2.1, q23.2.2.2))) (fun _ => rfl) (zM_thrown_ok l  q24.2 q23.2.2.1 q23.2.2.2 hq25) rfl rfl ?_
  refine iq_G_go (k := 1) (σ' := (709, [some (.ref 0), some (.ref 1), some (.ref 76), some (.ref 114), some (.int x4), some (.int q23.1), some (.int q24.1), none], [.int q23.1, .int q25], (iq_sh l, q24.2, q23.2.2.1, q23.2.2.2))) (fun _ => rfl) ?_
  rcases iq_ite h with ⟨hc_, h⟩ | ⟨hc_, h⟩
  · refine iq_G_pos (c := q25 = q23.1) (σ1 := (714, [some (.ref 0), some (.ref 1), some (.ref 76), some (.ref 114), some (.int x4), some (.int q23.1), some (.int q24.1), none], [], (iq_sh l, q24.2, q23.2.2.1, q23.2.2.2))) (fun _ => rfl) hc_ ?_
    refine iq_G_go (k := 1) (σ' := (716, [some (.ref 0), some (.ref 1), some (.ref 76), some (.ref 114), some (.int x4), some (.int q23.1), some (.int q24.1), none], [.int q23.1], (iq_sh l, q24.2, q23.2.2.1, q23.2.2.2))) (fun _ => rfl) ?_
    rcases iq_ite h with ⟨hc_, h⟩ | ⟨hc_, h⟩
    · refine iq_G_pos (c := ¬ q23.1 = 0) (σ1 := (731, [some (.ref 0), some (.ref 1), some (.ref 76), some (.ref 114), some (.int x4), some (.int q23.1), some (.int q24.1), none], [], (iq_sh l, q24.2, q23.2.2.1, q23.2.2.2))) (fun _ => rfl) hc_ ?_
      refine iq_G_go (k := 1) (σ' := (2524, [some (.ref 0), some (.ref 1), some (.ref 76), some (.ref 114), some (.int x4), some (.int q23.1), some (.int q24.1), none], [], (iq_sh l, q24.2, q23.2.2.1, q23.2.2.2))) (fun _ => rfl) ?_
      refine iq_G_go (k := 2) (σ' := (23, [some (.ref 0), some (.ref 1), some (.ref 76), some (.ref 114), some (.int (x4 + (6 : Int32))), some (.int q23.1), some (.int q24.1), none], [], (iq_sh l, q24.2, q23.2.2.1, q23.2.2.2))) (fun _ => rfl) ?_
      cases h
      exact iq_G_fg (L := [some (.ref 0), some (.ref 1), some (.ref 76), some (.ref 114), some (.int (x4 + (6 : Int32))), none, none, none]) (And.intro rfl (And.intro rfl (And.intro rfl (And.intro rfl (And.intro rfl trivial))))) (hc ((x4 + (6 : Int32)), q24.2, q23.2.2.1, q23.2.2.2) rfl)
    · refine iq_G_neg (c := ¬ q23.1 = 0) (σ1 := (719, [some (.ref 0), some (.ref 1), some (.ref 76), some (.ref 114), some (.int x4), some (.int q23.1), some (.int q24.1), none], [], (iq_sh l, q24.2, q23.2.2.1, q23.2.2.2))) (fun _ => rfl) hc_ ?_
      refine iq_G_go (k := 2) (σ' := (721, [some (.ref 0), some (.ref 1), some (.ref 76), some (.ref 114), some (.int x4), some (.int q23.1), some (.int q24.1), none], [.int (0 : Int32), .ref 114], (iq_sh l, q24.2, q23.2.2.1, q23.2.2.2))) (fun _ => rfl) ?_
      refine iq_G_go (k := 1) (σ' := (722, [some (.ref 0), some (.ref 1), some (.ref 76), some (.ref 114), some (.int x4), some (.int q23.1), some (.int q24.1), none], [.long (q23.2.2.1 114 0)], (iq_sh l, q24.2, q23.2.2.1, q23.2.2.2))) (fun _ => rfl) ?_
      refine iq_G_go (k := 3) (σ' := (726, [some (.ref 0), some (.ref 1), some (.ref 76), some (.ref 114), some (.int x4), some (.int q23.1), some (.int q24.1), none], [.int (lg_cmp (q23.2.2.1 114 0) (Int32.toInt64 q24.1))], (iq_sh l, q24.2, q23.2.2.1, q23.2.2.2))) (fun _ => rfl) ?_
      rcases iq_ite h with ⟨hc_, h⟩ | ⟨hc_, h⟩
      · refine iq_G_pos (c := (lg_cmp (q23.2.2.1 114 0) (Int32.toInt64 q24.1)) = 0) (σ1 := (731, [some (.ref 0), some (.ref 1), some (.ref 76), some (.ref 114), some (.int x4), some (.int q23.1), some (.int q24.1), none], [], (iq_sh l, q24.2, q23.2.2.1, q23.2.2.2))) (fun _ => rfl) hc_ ?_
        refine iq_G_go (k := 1) (σ' := (2524, [some (.ref 0), some (.ref 1), some (.ref 76), some (.ref 114), some (.int x4), some (.int q23.1), some (.int q24.1), none], [], (iq_sh l, q24.2, q23.2.2.1, q23.2.2.2))) (fun _ => rfl) ?_
        refine iq_G_go (k := 2) (σ' := (23, [some (.ref 0), some (.ref 1), some (.ref 76), some (.ref 114), some (.int (x4 + (6 : Int32))), some (.int q23.1), some (.int q24.1), none], [], (iq_sh l, q24.2, q23.2.2.1, q23.2.2.2))) (fun _ => rfl) ?_
        cases h
        exact iq_G_fg (L := [some (.ref 0), some (.ref 1), some (.ref 76), some (.ref 114), some (.int (x4 + (6 : Int32))), none, none, none]) (And.intro rfl (And.intro rfl (And.intro rfl (And.intro rfl (And.intro rfl trivial))))) (hc ((x4 + (6 : Int32)), q24.2, q23.2.2.1, q23.2.2.2) rfl)
      · refine iq_G_neg (c := (lg_cmp (q23.2.2.1 114 0) (Int32.toInt64 q24.1)) = 0) (σ1 := (729, [some (.ref 0), some (.ref 1), some (.ref 76), some (.ref 114), some (.int x4), some (.int q23.1), some (.int q24.1), none], [], (iq_sh l, q24.2, q23.2.2.1, q23.2.2.2))) (fun _ => rfl) hc_ ?_
        refine iq_G_go (k := 1) (σ' := (730, [some (.ref 0), some (.ref 1), some (.ref 76), some (.ref 114), some (.int x4), some (.int q23.1), some (.int q24.1), none], [.int (0 : Int32)], (iq_sh l, q24.2, q23.2.2.1, q23.2.2.2))) (fun _ => rfl) ?_
        cases h
        obtain rfl := (hx _ rfl).2 _ rfl
        exact iq_G_ret (fun _ => rfl)
  · refine iq_G_neg (c := q25 = q23.1) (σ1 := (712, [some (.ref 0), some (.ref 1), some (.ref 76), some (.ref 114), some (.int x4), some (.int q23.1), some (.int q24.1), none], [], (iq_sh l, q24.2, q23.2.2.1, q23.2.2.2))) (fun _ => rfl) hc_ ?_
    refine iq_G_go (k := 1) (σ' := (713, [some (.ref 0), some (.ref 1), some (.ref 76), some (.ref 114), some (.int x4), some (.int q23.1), some (.int q24.1), none], [.int (0 : Int32)], (iq_sh l, q24.2, q23.2.2.1, q23.2.2.2))) (fun _ => rfl) ?_
    cases h
    obtain rfl := (hx _ rfl).2 _ rfl
    exact iq_G_ret (fun _ => rfl)
set_option maxRecDepth 100000 in
theorem zL_law_734_ok (l : Nat)  (x4 : Int32) (I : iq_I) (J : iq_J) (X : iq_X)  {q : (Int32 × iq_I × iq_J × iq_X) ⊕ ((iq_I × iq_J × iq_X) ⊕ (Int32 × iq_I × iq_J × iq_X))} (h : zL_law_734 l x4 I J X = some q) (r : iq_R × iq_M) (hc : ∀ v, q = .inl v → iq_Gg 72 357 (23, [some (.ref 0), some (.ref 1), some (.ref 76), some (.ref 114), some (.int v.1), none, none, none], [], (iq_sh l, v.2.1, v.2.2.1, v.2.2.2)) r) (hx : ∀ w, q = .inr w → (∀ a, w = .inl a → iq_Gg 72 357 (2530, [none, none, none, none, none, none, none, none], [], (iq_sh l, a.1, a.2.1, a.2.2)) r) ∧ (∀ b, w = .inr b → r = (.inl (some (.int b.1)), (iq_sh l, b.2.1, b.2.2.1, b.2.2.2)))) : iq_Gg 72 357 (734, [some (.ref 0), some (.ref 1), some (.ref 76), some (.ref 114), some (.int x4), none, none, none], [], (iq_sh l, I, J, X)) r := by
  unfold zL_law_734 at h
  refine iq_G_go (k := 5) (σ' := (740, [some (.ref 0), some (.ref 1), some (.ref 76), some (.ref 114), some (.int x4), none, none, none], [.int (x4 + (1 : Int32)), .ref 0, .ref 1], (iq_sh l, I, J, X))) (fun _ => rfl) ?_
  obtain ⟨hc_, h⟩ := iq_itn h
  refine iq_G_pos (c := iq_in (x4 + (1 : Int32)) l) (σ1 := (741, [some (.ref 0), some (.ref 1), some (.ref 76), some (.ref 114), some (.int x4), none, none, none], [.int (I 0 (Int32.toNatClampNeg (x4 + (1 : Int32)))), .ref 1], (iq_sh l, I, J, X))) (fun _ => rfl) hc_ ?_
  refine iq_G_go (k := 4) (σ' := (746, [some (.ref 0), some (.ref 1), some (.ref 76), some (.ref 114), some (.int x4), none, none, none], [.int (x4 + (2 : Int32)), .ref 0, .int (I 0 (Int32.toNatClampNeg (x4 + (1 : Int32)))), .ref 1], (iq_sh l, I, J, X))) (fun _ => rfl) ?_
  obtain ⟨hc_, h⟩ := iq_itn h
  refine iq_G_pos (c := iq_in (x4 + (2 : Int32)) l) (σ1 := (747, [some (.ref 0), some (.ref 1), some (.ref 76), some (.ref 114), some (.int x4), none, none, none], [.int (I 0 (Int32.toNatClampNeg (x4 + (2 : Int32)))), .int (I 0 (Int32.toNatClampNeg (x4 + (1 : Int32)))), .ref 1], (iq_sh l, I, J, X))) (fun _ => rfl) hc_ ?_
  refine iq_G_go (k := 1) (σ' := (748, [some (.ref 0), some (.ref 1), some (.ref 76), some (.ref 114), some (.int x4), none, none, none], [.ref 114, .int (I 0 (Int32.toNatClampNeg (x4 + (2 : Int32)))), .int (I 0 (Int32.toNatClampNeg (x4 + (1 : Int32)))), .ref 1], (iq_sh l, I, J, X))) (fun _ => rfl) ?_
  obtain ⟨q26, hq26, h⟩ := iq_bnd h
  refine iq_G_call (σ' := (751, [some (.ref 0), some (.ref 1), some (.ref 76), some (.ref 114), some (.int x4), none, none, none], [.int q26.1], (iq_sh l, q26.2.1, q26.2.2.1, q26.2.2.2))) (fun _ => rfl) (zL_add_ok l (I 0 (Int32.toNatClampNeg (x4 + (1 : Int32)))) (I 0 (Int32.toNatClampNeg (x4 + (2 : Int32)))) I J X hq26) rfl rfl ?_
  refine iq_G_go (k := 6) (σ' := (759, [some (.ref 0), some (.ref 1), some (.ref 76), some (.ref 114), some (.int x4), some (.int q26.1), none, none], [.int (x4 + (1 : Int32)), .ref 0, .ref 76], (iq_sh l, q26.2.1, q26.2.2.1, q26.2.2.2))) (fun _ => rfl) ?_
  obtain ⟨hc_, h⟩ := iq_itn h
  refine iq_G_pos (c := iq_in (x4 + (1 : Int32)) l) (σ1 := (760, [some (.ref 0), some (.ref 1), some (.ref 76), some (.ref 114), some (.int x4), some (.int q26.1), none, none], [.int (q26.2.1 0 (Int32.toNatClampNeg (x4 + (1 : Int32)))), .ref 76], (iq_sh l, q26.2.1, q26.2.2.1, q26.2.2.2))) (fun _ => rfl) hc_ ?_
  refine iq_G_go (k := 4) (σ' := (765, [some (.ref 0), some (.ref 1), some (.ref 76), some (.ref 114), some (.int x4), some (.int q26.1), none, none], [.int (x4 + (2 : Int32)), .ref 0, .int (q26.2.1 0 (Int32.toNatClampNeg (x4 + (1 : Int32)))), .ref 76], (iq_sh l, q26.2.1, q26.2.2.1, q26.2.2.2))) (fun _ => rfl) ?_
  obtain ⟨hc_, h⟩ := iq_itn h
  refine iq_G_pos (c := iq_in (x4 + (2 : Int32)) l) (σ1 := (766, [some (.ref 0), some (.ref 1), some (.ref 76), some (.ref 114), some (.int x4), some (.int q26.1), none, none], [.int (q26.2.1 0 (Int32.toNatClampNeg (x4 + (2 : Int32)))), .int (q26.2.1 0 (Int32.toNatClampNeg (x4 + (1 : Int32)))), .ref 76], (iq_sh l, q26.2.1, q26.2.2.1, q26.2.2.2))) (fun _ => rfl) hc_ ?_
  obtain ⟨q27, hq27, h⟩ := iq_bnd h
  refine iq_G_call (σ' := (769, [some (.ref 0), some (.ref 1), some (.ref 76), some (.ref 114), some (.int x4), some (.int q26.1), none, none], [.int q27.1], (iq_sh l, q27.2, q26.2.2.1, q26.2.2.2))) (fun _ => rfl) (zM_add_ok l (q26.2.1 0 (Int32.toNatClampNeg (x4 + (1 : Int32)))) (q26.2.1 0 (Int32.toNatClampNeg (x4 + (2 : Int32)))) q26.2.1 q26.2.2.1 q26.2.2.2 hq27) rfl rfl ?_
  refine iq_G_go (k := 2) (σ' := (772, [some (.ref 0), some (.ref 1), some (.ref 76), some (.ref 114), some (.int x4), some (.int q26.1), some (.int q27.1), none], [.ref 76], (iq_sh l, q27.2, q26.2.2.1, q26.2.2.2))) (fun _ => rfl) ?_
  obtain ⟨q28, hq28, h⟩ := iq_bnd h
  refine iq_G_call (σ' := (775, [some (.ref 0), some (.ref 1), some (.ref 76), some (.ref 114), some (.int x4), some (.int q26.1), some (.int q27.1), none], [.int q28], (iq_sh l, q27.2, q26.2.2.1, q26.2.2.2))) (fun _ => rfl) (zM_thrown_ok l  q27.2 q26.2.2.1 q26.2.2.2 hq28) rfl rfl ?_
  refine iq_G_go (k := 1) (σ' := (777, [some (.ref 0), some (.ref 1), some (.ref 76), some (.ref 114), some (.int x4), some (.int q26.1), some (.int q27.1), none], [.int q26.1, .int q28], (iq_sh l, q27.2, q26.2.2.1, q26.2.2.2))) (fun _ => rfl) ?_
  rcases iq_ite h with ⟨hc_, h⟩ | ⟨hc_, h⟩
  · refine iq_G_pos (c := q28 = q26.1) (σ1 := (782, [some (.ref 0), some (.ref 1), some (.ref 76), some (.ref 114), some (.int x4), some (.int q26.1), some (.int q27.1), none], [], (iq_sh l, q27.2, q26.2.2.1, q26.2.2.2))) (fun _ => rfl) hc_ ?_
    refine iq_G_go (k := 1) (σ' := (784, [some (.ref 0), some (.ref 1), some (.ref 76), some (.ref 114), some (.int x4), some (.int q26.1), some (.int q27.1), none], [.int q26.1], (iq_sh l, q27.2, q26.2.2.1, q26.2.2.2))) (fun _ => rfl) ?_
    rcases iq_ite h with ⟨hc_, h⟩ | ⟨hc_, h⟩
    · refine iq_G_pos (c := ¬ q26.1 = 0) (σ1 := (799, [some (.ref 0), some (.ref 1), some (.ref 76), some (.ref 114), some (.int x4), some (.int q26.1), some (.int q27.1), none], [], (iq_sh l, q27.2, q26.2.2.1, q26.2.2.2))) (fun _ => rfl) hc_ ?_
      refine iq_G_go (k := 1) (σ' := (2524, [some (.ref 0), some (.ref 1), some (.ref 76), some (.ref 114), some (.int x4), some (.int q26.1), some (.int q27.1), none], [], (iq_sh l, q27.2, q26.2.2.1, q26.2.2.2))) (fun _ => rfl) ?_
      refine iq_G_go (k := 2) (σ' := (23, [some (.ref 0), some (.ref 1), some (.ref 76), some (.ref 114), some (.int (x4 + (6 : Int32))), some (.int q26.1), some (.int q27.1), none], [], (iq_sh l, q27.2, q26.2.2.1, q26.2.2.2))) (fun _ => rfl) ?_
      cases h
      exact iq_G_fg (L := [some (.ref 0), some (.ref 1), some (.ref 76), some (.ref 114), some (.int (x4 + (6 : Int32))), none, none, none]) (And.intro rfl (And.intro rfl (And.intro rfl (And.intro rfl (And.intro rfl trivial))))) (hc ((x4 + (6 : Int32)), q27.2, q26.2.2.1, q26.2.2.2) rfl)
    · refine iq_G_neg (c := ¬ q26.1 = 0) (σ1 := (787, [some (.ref 0), some (.ref 1), some (.ref 76), some (.ref 114), some (.int x4), some (.int q26.1), some (.int q27.1), none], [], (iq_sh l, q27.2, q26.2.2.1, q26.2.2.2))) (fun _ => rfl) hc_ ?_
      refine iq_G_go (k := 2) (σ' := (789, [some (.ref 0), some (.ref 1), some (.ref 76), some (.ref 114), some (.int x4), some (.int q26.1), some (.int q27.1), none], [.int (0 : Int32), .ref 114], (iq_sh l, q27.2, q26.2.2.1, q26.2.2.2))) (fun _ => rfl) ?_
      refine iq_G_go (k := 1) (σ' := (790, [some (.ref 0), some (.ref 1), some (.ref 76), some (.ref 114), some (.int x4), some (.int q26.1), some (.int q27.1), none], [.long (q26.2.2.1 114 0)], (iq_sh l, q27.2, q26.2.2.1, q26.2.2.2))) (fun _ => rfl) ?_
      refine iq_G_go (k := 3) (σ' := (794, [some (.ref 0), some (.ref 1), some (.ref 76), some (.ref 114), some (.int x4), some (.int q26.1), some (.int q27.1), none], [.int (lg_cmp (q26.2.2.1 114 0) (Int32.toInt64 q27.1))], (iq_sh l, q27.2, q26.2.2.1, q26.2.2.2))) (fun _ => rfl) ?_
      rcases iq_ite h with ⟨hc_, h⟩ | ⟨hc_, h⟩
      · refine iq_G_pos (c := (lg_cmp (q26.2.2.1 114 0) (Int32.toInt64 q27.1)) = 0) (σ1 := (799, [some (.ref 0), some (.ref 1), some (.ref 76), some (.ref 114), some (.int x4), some (.int q26.1), some (.int q27.1), none], [], (iq_sh l, q27.2, q26.2.2.1, q26.2.2.2))) (fun _ => rfl) hc_ ?_
        refine iq_G_go (k := 1) (σ' := (2524, [some (.ref 0), some (.ref 1), some (.ref 76), some (.ref 114), some (.int x4), some (.int q26.1), some (.int q27.1), none], [], (iq_sh l, q27.2, q26.2.2.1, q26.2.2.2))) (fun _ => rfl) ?_
        refine iq_G_go (k := 2) (σ' := (23, [some (.ref 0), some (.ref 1), some (.ref 76), some (.ref 114), some (.int (x4 + (6 : Int32))), some (.int q26.1), some (.int q27.1), none], [], (iq_sh l, q27.2, q26.2.2.1, q26.2.2.2))) (fun _ => rfl) ?_
        cases h
        exact iq_G_fg (L := [some (.ref 0), some (.ref 1), some (.ref 76), some (.ref 114), some (.int (x4 + (6 : Int32))), none, none, none]) (And.intro rfl (And.intro rfl (And.intro rfl (And.intro rfl (And.intro rfl trivial))))) (hc ((x4 + (6 : Int32)), q27.2, q26.2.2.1, q26.2.2.2) rfl)
      · refine iq_G_neg (c := (lg_cmp (q26.2.2.1 114 0) (Int32.toInt64 q27.1)) = 0) (σ1 := (797, [some (.ref 0), some (.ref 1), some (.ref 76), some (.ref 114), some (.int x4), some (.int q26.1), some (.int q27.1), none], [], (iq_sh l, q27.2, q26.2.2.1, q26.2.2.2))) (fun _ => rfl) hc_ ?_
        refine iq_G_go (k := 1) (σ' := (798, [some (.ref 0), some (.ref 1), some (.ref 76), some (.ref 114), some (.int x4), some (.int q26.1), some (.int q27.1), none], [.int (0 : Int32)], (iq_sh l, q27.2, q26.2.2.1, q26.2.2.2))) (fun _ => rfl) ?_
        cases h
        obtain rfl := (hx _ rfl).2 _ rfl
        exact iq_G_ret (fun _ => rfl)
  · refine iq_G_neg (c := q28 = q26.1) (σ1 := (780, [some (.ref 0), some (.ref 1), some (.ref 76), some (.ref 114), some (.int x4), some (.int q26.1), some (.int q27.1), none], [], (iq_sh l, q27.2, q26.2.2.1, q26.2.2.2))) (fun _ => rfl) hc_ ?_
    refine iq_G_go (k := 1) (σ' := (781, [some (.ref 0), some (.ref 1), some (.ref 76), some (.ref 114), some (.int x4), some (.int q26.1), some (.int q27.1), none], [.int (0 : Int32)], (iq_sh l, q27.2, q26.2.2.1, q26.2.2.2))) (fun _ => rfl) ?_
    cases h
    obtain rfl := (hx _ rfl).2 _ rfl
    exact iq_G_ret (fun _ => rfl)
set_option maxRecDepth 100000 in
theorem zL_law_802_ok (l : Nat)  (x4 : Int32) (I : iq_I) (J : iq_J) (X : iq_X)  {q : (Int32 × iq_I × iq_J × iq_X) ⊕ ((iq_I × iq_J × iq_X) ⊕ (Int32 × iq_I × iq_J × iq_X))} (h : zL_law_802 l x4 I J X = some q) (r : iq_R × iq_M) (hc : ∀ v, q = .inl v → iq_Gg 72 357 (23, [some (.ref 0), some (.ref 1), some (.ref 76), some (.ref 114), some (.int v.1), none, none, none], [], (iq_sh l, v.2.1, v.2.2.1, v.2.2.2)) r) (hx : ∀ w, q = .inr w → (∀ a, w = .inl a → iq_Gg 72 357 (2530, [none, none, none, none, none, none, none, none], [], (iq_sh l, a.1, a.2.1, a.2.2)) r) ∧ (∀ b, w = .inr b → r = (.inl (some (.int b.1)), (iq_sh l, b.2.1, b.2.2.1, b.2.2.2)))) : iq_Gg 72 357 (802, [some (.ref 0), some (.ref 1), some (.ref 76), some (.ref 114), some (.int x4), none, none, none], [], (iq_sh l, I, J, X)) r := by
  unfold zL_law_802 at h
  refine iq_G_go (k := 5) (σ' := (808, [some (.ref 0), some (.ref 1), some (.ref 76), some (.ref 114), some (.int x4), none, none, none], [.int (x4 + (1 : Int32)), .ref 0, .ref 1], (iq_sh l, I, J, X))) (fun _ => rfl) ?_
  obtain ⟨hc_, h⟩ := iq_itn h
  refine iq_G_pos (c := iq_in (x4 + (1 : Int32)) l) (σ1 := (809, [some (.ref 0), some (.ref 1), some (.ref 76), some (.ref 114), some (.int x4), none, none, none], [.int (I 0 (Int32.toNatClampNeg (x4 + (1 : Int32)))), .ref 1], (iq_sh l, I, J, X))) (fun _ => rfl) hc_ ?_
  refine iq_G_go (k := 4) (σ' := (814, [some (.ref 0), some (.ref 1), some (.ref 76), some (.ref 114), some (.int x4), none, none, none], [.int (x4 + (2 : Int32)), .ref 0, .int (I 0 (Int32.toNatClampNeg (x4 + (1 : Int32)))), .ref 1], (iq_sh l, I, J, X))) (fun _ => rfl) ?_
  obtain ⟨hc_, h⟩ := iq_itn h
  refine iq_G_pos (c := iq_in (x4 + (2 : Int32)) l) (σ1 := (815, [some (.ref 0), some (.ref 1), some (.ref 76), some (.ref 114), some (.int x4), none, none, none], [.int (I 0 (Int32.toNatClampNeg (x4 + (2 : Int32)))), .int (I 0 (Int32.toNatClampNeg (x4 + (1 : Int32)))), .ref 1], (iq_sh l, I, J, X))) (fun _ => rfl) hc_ ?_
  refine iq_G_go (k := 4) (σ' := (820, [some (.ref 0), some (.ref 1), some (.ref 76), some (.ref 114), some (.int x4), none, none, none], [.int (x4 + (3 : Int32)), .ref 0, .int (I 0 (Int32.toNatClampNeg (x4 + (2 : Int32)))), .int (I 0 (Int32.toNatClampNeg (x4 + (1 : Int32)))), .ref 1], (iq_sh l, I, J, X))) (fun _ => rfl) ?_
  obtain ⟨hc_, h⟩ := iq_itn h
  refine iq_G_pos (c := iq_in (x4 + (3 : Int32)) l) (σ1 := (821, [some (.ref 0), some (.ref 1), some (.ref 76), some (.ref 114), some (.int x4), none, none, none], [.int (I 0 (Int32.toNatClampNeg (x4 + (3 : Int32)))), .int (I 0 (Int32.toNatClampNeg (x4 + (2 : Int32)))), .int (I 0 (Int32.toNatClampNeg (x4 + (1 : Int32)))), .ref 1], (iq_sh l, I, J, X))) (fun _ => rfl) hc_ ?_
  refine iq_G_go (k := 1) (σ' := (822, [some (.ref 0), some (.ref 1), some (.ref 76), some (.ref 114), some (.int x4), none, none, none], [.ref 114, .int (I 0 (Int32.toNatClampNeg (x4 + (3 : Int32)))), .int (I 0 (Int32.toNatClampNeg (x4 + (2 : Int32)))), .int (I 0 (Int32.toNatClampNeg (x4 + (1 : Int32)))), .ref 1], (iq_sh l, I, J, X))) (fun _ => rfl) ?_
  obtain ⟨q29, hq29, h⟩ := iq_bnd h
  refine iq_G_call (σ' := (825, [some (.ref 0), some (.ref 1), some (.ref 76), some (.ref 114), some (.int x4), none, none, none], [.int q29.1], (iq_sh l, q29.2.1, q29.2.2.1, q29.2.2.2))) (fun _ => rfl) (zL_fly_ok l (I 0 (Int32.toNatClampNeg (x4 + (1 : Int32)))) (I 0 (Int32.toNatClampNeg (x4 + (2 : Int32)))) (I 0 (Int32.toNatClampNeg (x4 + (3 : Int32)))) I J X hq29) rfl rfl ?_
  refine iq_G_go (k := 6) (σ' := (833, [some (.ref 0), some (.ref 1), some (.ref 76), some (.ref 114), some (.int x4), some (.int q29.1), none, none], [.int (x4 + (1 : Int32)), .ref 0, .ref 76], (iq_sh l, q29.2.1, q29.2.2.1, q29.2.2.2))) (fun _ => rfl) ?_
  obtain ⟨hc_, h⟩ := iq_itn h
  refine iq_G_pos (c := iq_in (x4 + (1 : Int32)) l) (σ1 := (834, [some (.ref 0), some (.ref 1), some (.ref 76), some (.ref 114), some (.int x4), some (.int q29.1), none, none], [.int (q29.2.1 0 (Int32.toNatClampNeg (x4 + (1 : Int32)))), .ref 76], (iq_sh l, q29.2.1, q29.2.2.1, q29.2.2.2))) (fun _ => rfl) hc_ ?_
  refine iq_G_go (k := 4) (σ' := (839, [some (.ref 0), some (.ref 1), some (.ref 76), some (.ref 114), some (.int x4), some (.int q29.1), none, none], [.int (x4 + (2 : Int32)), .ref 0, .int (q29.2.1 0 (Int32.toNatClampNeg (x4 + (1 : Int32)))), .ref 76], (iq_sh l, q29.2.1, q29.2.2.1, q29.2.2.2))) (fun _ => rfl) ?_
  obtain ⟨hc_, h⟩ := iq_itn h
  refine iq_G_pos (c := iq_in (x4 + (2 : Int32)) l) (σ1 := (840, [some (.ref 0), some (.ref 1), some (.ref 76), some (.ref 114), some (.int x4), some (.int q29.1), none, none], [.int (q29.2.1 0 (Int32.toNatClampNeg (x4 + (2 : Int32)))), .int (q29.2.1 0 (Int32.toNatClampNeg (x4 + (1 : Int32)))), .ref 76], (iq_sh l, q29.2.1, q29.2.2.1, q29.2.2.2))) (fun _ => rfl) hc_ ?_
  refine iq_G_go (k := 4) (σ' := (845, [some (.ref 0), some (.ref 1), some (.ref 76), some (.ref 114), some (.int x4), some (.int q29.1), none, none], [.int (x4 + (3 : Int32)), .ref 0, .int (q29.2.1 0 (Int32.toNatClampNeg (x4 + (2 : Int32)))), .int (q29.2.1 0 (Int32.toNatClampNeg (x4 + (1 : Int32)))), .ref 76], (iq_sh l, q29.2.1, q29.2.2.1, q29.2.2.2))) (fun _ => rfl) ?_
  obtain ⟨hc_, h⟩ := iq_itn h
  refine iq_G_pos (c := iq_in (x4 + (3 : Int32)) l) (σ1 := (846, [some (.ref 0), some (.ref 1), some (.ref 76), some (.ref 114), some (.int x4), some (.int q29.1), none, none], [.int (q29.2.1 0 (Int32.toNatClampNeg (x4 + (3 : Int32)))), .int (q29.2.1 0 (Int32.toNatClampNeg (x4 + (2 : Int32)))), .int (q29.2.1 0 (Int32.toNatClampNeg (x4 + (1 : Int32)))), .ref 76], (iq_sh l, q29.2.1, q29.2.2.1, q29.2.2.2))) (fun _ => rfl) hc_ ?_
  obtain ⟨q30, hq30, h⟩ := iq_bnd h
  refine iq_G_call (σ' := (849, [some (.ref 0), some (.ref 1), some (.ref 76), some (.ref 114), some (.int x4), some (.int q29.1), none, none], [.int q30.1], (iq_sh l, q30.2, q29.2.2.1, q29.2.2.2))) (fun _ => rfl) (zM_fly_ok l (q29.2.1 0 (Int32.toNatClampNeg (x4 + (1 : Int32)))) (q29.2.1 0 (Int32.toNatClampNeg (x4 + (2 : Int32)))) (q29.2.1 0 (Int32.toNatClampNeg (x4 + (3 : Int32)))) q29.2.1 q29.2.2.1 q29.2.2.2 hq30) rfl rfl ?_
  refine iq_G_go (k := 2) (σ' := (852, [some (.ref 0), some (.ref 1), some (.ref 76), some (.ref 114), some (.int x4), some (.int q29.1), some (.int q30.1), none], [.ref 76], (iq_sh l, q30.2, q29.2.2.1, q29.2.2.2))) (fun _ => rfl) ?_
  obtain ⟨q31, hq31, h⟩ := iq_bnd h
  refine iq_G_call (σ' := (855, [some (.ref 0), some (.ref 1), some (.ref 76), some (.ref 114), some (.int x4), some (.int q29.1), some (.int q30.1), none], [.int q31], (iq_sh l, q30.2, q29.2.2.1, q29.2.2.2))) (fun _ => rfl) (zM_thrown_ok l  q30.2 q29.2.2.1 q29.2.2.2 hq31) rfl rfl ?_
  refine iq_G_go (k := 1) (σ' := (857, [some (.ref 0), some (.ref 1), some (.ref 76), some (.ref 114), some (.int x4), some (.int q29.1), some (.int q30.1), none], [.int q29.1, .int q31], (iq_sh l, q30.2, q29.2.2.1, q29.2.2.2))) (fun _ => rfl) ?_
  rcases iq_ite h with ⟨hc_, h⟩ | ⟨hc_, h⟩
  · refine iq_G_pos (c := q31 = q29.1) (σ1 := (862, [some (.ref 0), some (.ref 1), some (.ref 76), some (.ref 114), some (.int x4), some (.int q29.1), some (.int q30.1), none], [], (iq_sh l, q30.2, q29.2.2.1, q29.2.2.2))) (fun _ => rfl) hc_ ?_
    refine iq_G_go (k := 1) (σ' := (864, [some (.ref 0), some (.ref 1), some (.ref 76), some (.ref 114), some (.int x4), some (.int q29.1), some (.int q30.1), none], [.int q29.1], (iq_sh l, q30.2, q29.2.2.1, q29.2.2.2))) (fun _ => rfl) ?_
    rcases iq_ite h with ⟨hc_, h⟩ | ⟨hc_, h⟩
    · refine iq_G_pos (c := ¬ q29.1 = 0) (σ1 := (879, [some (.ref 0), some (.ref 1), some (.ref 76), some (.ref 114), some (.int x4), some (.int q29.1), some (.int q30.1), none], [], (iq_sh l, q30.2, q29.2.2.1, q29.2.2.2))) (fun _ => rfl) hc_ ?_
      refine iq_G_go (k := 1) (σ' := (2524, [some (.ref 0), some (.ref 1), some (.ref 76), some (.ref 114), some (.int x4), some (.int q29.1), some (.int q30.1), none], [], (iq_sh l, q30.2, q29.2.2.1, q29.2.2.2))) (fun _ => rfl) ?_
      refine iq_G_go (k := 2) (σ' := (23, [some (.ref 0), some (.ref 1), some (.ref 76), some (.ref 114), some (.int (x4 + (6 : Int32))), some (.int q29.1), some (.int q30.1), none], [], (iq_sh l, q30.2, q29.2.2.1, q29.2.2.2))) (fun _ => rfl) ?_
      cases h
      exact iq_G_fg (L := [some (.ref 0), some (.ref 1), some (.ref 76), some (.ref 114), some (.int (x4 + (6 : Int32))), none, none, none]) (And.intro rfl (And.intro rfl (And.intro rfl (And.intro rfl (And.intro rfl trivial))))) (hc ((x4 + (6 : Int32)), q30.2, q29.2.2.1, q29.2.2.2) rfl)
    · refine iq_G_neg (c := ¬ q29.1 = 0) (σ1 := (867, [some (.ref 0), some (.ref 1), some (.ref 76), some (.ref 114), some (.int x4), some (.int q29.1), some (.int q30.1), none], [], (iq_sh l, q30.2, q29.2.2.1, q29.2.2.2))) (fun _ => rfl) hc_ ?_
      refine iq_G_go (k := 2) (σ' := (869, [some (.ref 0), some (.ref 1), some (.ref 76), some (.ref 114), some (.int x4), some (.int q29.1), some (.int q30.1), none], [.int (0 : Int32), .ref 114], (iq_sh l, q30.2, q29.2.2.1, q29.2.2.2))) (fun _ => rfl) ?_
      refine iq_G_go (k := 1) (σ' := (870, [some (.ref 0), some (.ref 1), some (.ref 76), some (.ref 114), some (.int x4), some (.int q29.1), some (.int q30.1), none], [.long (q29.2.2.1 114 0)], (iq_sh l, q30.2, q29.2.2.1, q29.2.2.2))) (fun _ => rfl) ?_
      refine iq_G_go (k := 3) (σ' := (874, [some (.ref 0), some (.ref 1), some (.ref 76), some (.ref 114), some (.int x4), some (.int q29.1), some (.int q30.1), none], [.int (lg_cmp (q29.2.2.1 114 0) (Int32.toInt64 q30.1))], (iq_sh l, q30.2, q29.2.2.1, q29.2.2.2))) (fun _ => rfl) ?_
      rcases iq_ite h with ⟨hc_, h⟩ | ⟨hc_, h⟩
      · refine iq_G_pos (c := (lg_cmp (q29.2.2.1 114 0) (Int32.toInt64 q30.1)) = 0) (σ1 := (879, [some (.ref 0), some (.ref 1), some (.ref 76), some (.ref 114), some (.int x4), some (.int q29.1), some (.int q30.1), none], [], (iq_sh l, q30.2, q29.2.2.1, q29.2.2.2))) (fun _ => rfl) hc_ ?_
        refine iq_G_go (k := 1) (σ' := (2524, [some (.ref 0), some (.ref 1), some (.ref 76), some (.ref 114), some (.int x4), some (.int q29.1), some (.int q30.1), none], [], (iq_sh l, q30.2, q29.2.2.1, q29.2.2.2))) (fun _ => rfl) ?_
        refine iq_G_go (k := 2) (σ' := (23, [some (.ref 0), some (.ref 1), some (.ref 76), some (.ref 114), some (.int (x4 + (6 : Int32))), some (.int q29.1), some (.int q30.1), none], [], (iq_sh l, q30.2, q29.2.2.1, q29.2.2.2))) (fun _ => rfl) ?_
        cases h
        exact iq_G_fg (L := [some (.ref 0), some (.ref 1), some (.ref 76), some (.ref 114), some (.int (x4 + (6 : Int32))), none, none, none]) (And.intro rfl (And.intro rfl (And.intro rfl (And.intro rfl (And.intro rfl trivial))))) (hc ((x4 + (6 : Int32)), q30.2, q29.2.2.1, q29.2.2.2) rfl)
      · refine iq_G_neg (c := (lg_cmp (q29.2.2.1 114 0) (Int32.toInt64 q30.1)) = 0) (σ1 := (877, [some (.ref 0), some (.ref 1), some (.ref 76), some (.ref 114), some (.int x4), some (.int q29.1), some (.int q30.1), none], [], (iq_sh l, q30.2, q29.2.2.1, q29.2.2.2))) (fun _ => rfl) hc_ ?_
        refine iq_G_go (k := 1) (σ' := (878, [some (.ref 0), some (.ref 1), some (.ref 76), some (.ref 114), some (.int x4), some (.int q29.1), some (.int q30.1), none], [.int (0 : Int32)], (iq_sh l, q30.2, q29.2.2.1, q29.2.2.2))) (fun _ => rfl) ?_
        cases h
        obtain rfl := (hx _ rfl).2 _ rfl
        exact iq_G_ret (fun _ => rfl)
  · refine iq_G_neg (c := q31 = q29.1) (σ1 := (860, [some (.ref 0), some (.ref 1), some (.ref 76), some (.ref 114), some (.int x4), some (.int q29.1), some (.int q30.1), none], [], (iq_sh l, q30.2, q29.2.2.1, q29.2.2.2))) (fun _ => rfl) hc_ ?_
    refine iq_G_go (k := 1) (σ' := (861, [some (.ref 0), some (.ref 1), some (.ref 76), some (.ref 114), some (.int x4), some (.int q29.1), some (.int q30.1), none], [.int (0 : Int32)], (iq_sh l, q30.2, q29.2.2.1, q29.2.2.2))) (fun _ => rfl) ?_
    cases h
    obtain rfl := (hx _ rfl).2 _ rfl
    exact iq_G_ret (fun _ => rfl)
