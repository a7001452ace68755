/-! ===== the law ===== -/
set_option maxRecDepth 100000 in
theorem zL_law_882_ok (l : Nat)  (x4 : Int32) (I : iq_I) (J : iq_J) (X : iq_X)  {q : (Int32 × iq_I × iq_J × iq_X) ⊕ ((iq_I × iq_J × iq_X) ⊕ (Int32 × iq_I × iq_J × iq_X))} (h : zL_law_882 l x4 I J X = some q) (r : iq_R × iq_M) (hc : ∀ v, q = .inl v → iq_Gg 72 357 (23, [some (.ref 0), some (.ref 1), some (.ref 76), some (.ref 114), some (.int v.1), none, none, none], [], (iq_sh l, v.2.1, v.2.2.1, v.2.2.2)) r) (hx : ∀ w, q = .inr w → (∀ a, w = .inl a → iq_Gg 72 357 (2530, [none, none, none, none, none, none, none, none], [], (iq_sh l, a.1, a.2.1, a.2.2)) r) ∧ (∀ b, w = .inr b → r = (.inl (some (.int b.1)), (iq_sh l, b.2.1, b.2.2.1, b.2.2.2)))) : iq_Gg 72 357 (882, [some (.ref 0), some (.ref 1), some (.ref 76), some (.ref 114), some (.int x4), none, none, none], [], (iq_sh l, I, J, X)) r := by
  unfold zL_law_882 at h
  refine iq_G_go (k := 5) (σ' := (888, [some (.ref 0), some (.ref 1), some (.ref 76), some (.ref 114), some (.int x4), none, none, none], [.int (x4 + (1 : Int32)), .ref 0, .ref 1], (iq_sh l, I, J, X))) (fun _ => rfl) ?_
  obtain ⟨hc_, h⟩ := iq_itn h
  refine iq_G_pos (c := iq_in (x4 + (1 : Int32)) l) (σ1 := (889, [some (.ref 0), some (.ref 1), some (.ref 76), some (.ref 114), some (.int x4), none, none, none], [.int (I 0 (Int32.toNatClampNeg (x4 + (1 : Int32)))), .ref 1], (iq_sh l, I, J, X))) (fun _ => rfl) hc_ ?_
  refine iq_G_go (k := 4) (σ' := (894, [some (.ref 0), some (.ref 1), some (.ref 76), some (.ref 114), some (.int x4), none, none, none], [.int (x4 + (2 : Int32)), .ref 0, .int (I 0 (Int32.toNatClampNeg (x4 + (1 : Int32)))), .ref 1], (iq_sh l, I, J, X))) (fun _ => rfl) ?_
  obtain ⟨hc_, h⟩ := iq_itn h
  refine iq_G_pos (c := iq_in (x4 + (2 : Int32)) l) (σ1 := (895, [some (.ref 0), some (.ref 1), some (.ref 76), some (.ref 114), some (.int x4), none, none, none], [.int (I 0 (Int32.toNatClampNeg (x4 + (2 : Int32)))), .int (I 0 (Int32.toNatClampNeg (x4 + (1 : Int32)))), .ref 1], (iq_sh l, I, J, X))) (fun _ => rfl) hc_ ?_
  refine iq_G_go (k := 1) (σ' := (896, [some (.ref 0), some (.ref 1), some (.ref 76), some (.ref 114), some (.int x4), none, none, none], [.ref 114, .int (I 0 (Int32.toNatClampNeg (x4 + (2 : Int32)))), .int (I 0 (Int32.toNatClampNeg (x4 + (1 : Int32)))), .ref 1], (iq_sh l, I, J, X))) (fun _ => rfl) ?_
  obtain ⟨q32, hq32, h⟩ := iq_bnd h
  refine iq_G_call (σ' := (899, [some (.ref 0), some (.ref 1), some (.ref 76), some (.ref 114), some (.int x4), none, none, none], [.int q32.1], (iq_sh l, q32.2.1, q32.2.2.1, q32.2.2.2))) (fun _ => rfl) (zL_take_ok l (I 0 (Int32.toNatClampNeg (x4 + (1 : Int32)))) (I 0 (Int32.toNatClampNeg (x4 + (2 : Int32)))) I J X hq32) rfl rfl ?_
  refine iq_G_go (k := 6) (σ' := (907, [some (.ref 0), some (.ref 1), some (.ref 76), some (.ref 114), some (.int x4), some (.int q32.1), none, none], [.int (x4 + (1 : Int32)), .ref 0, .ref 76], (iq_sh l, q32.2.1, q32.2.2.1, q32.2.2.2))) (fun _ => rfl) ?_
  obtain ⟨hc_, h⟩ := iq_itn h
  refine iq_G_pos (c := iq_in (x4 + (1 : Int32)) l) (σ1 := (908, [some (.ref 0), some (.ref 1), some (.ref 76), some (.ref 114), some (.int x4), some (.int q32.1), none, none], [.int (q32.2.1 0 (Int32.toNatClampNeg (x4 + (1 : Int32)))), .ref 76], (iq_sh l, q32.2.1, q32.2.2.1, q32.2.2.2))) (fun _ => rfl) hc_ ?_
  refine iq_G_go (k := 4) (σ' := (913, [some (.ref 0), some (.ref 1), some (.ref 76), some (.ref 114), some (.int x4), some (.int q32.1), none, none], [.int (x4 + (2 : Int32)), .ref 0, .int (q32.2.1 0 (Int32.toNatClampNeg (x4 + (1 : Int32)))), .ref 76], (iq_sh l, q32.2.1, q32.2.2.1, q32.2.2.2))) (fun _ => rfl) ?_
  obtain ⟨hc_, h⟩ := iq_itn h
  refine iq_G_pos (c := iq_in (x4 + (2 : Int32)) l) (σ1 := (914, [some (.ref 0), some (.ref 1), some (.ref 76), some (.ref 114), some (.int x4), some (.int q32.1), none, none], [.int (q32.2.1 0 (Int32.toNatClampNeg (x4 + (2 : Int32)))), .int (q32.2.1 0 (Int32.toNatClampNeg (x4 + (1 : Int32)))), .ref 76], (iq_sh l, q32.2.1, q32.2.2.1, q32.2.2.2))) (fun _ => rfl) hc_ ?_
  obtain ⟨q33, hq33, h⟩ := iq_bnd h
  refine iq_G_call (σ' := (917, [some (.ref 0), some (.ref 1), some (.ref 76), some (.ref 114), some (.int x4), some (.int q32.1), none, none], [.int q33.1], (iq_sh l, q33.2, q32.2.2.1, q32.2.2.2))) (fun _ => rfl) (zM_take_ok l (q32.2.1 0 (Int32.toNatClampNeg (x4 + (1 : Int32)))) (q32.2.1 0 (Int32.toNatClampNeg (x4 + (2 : Int32)))) q32.2.1 q32.2.2.1 q32.2.2.2 hq33) rfl rfl ?_
  refine iq_G_go (k := 2) (σ' := (920, [some (.ref 0), some (.ref 1), some (.ref 76), some (.ref 114), some (.int x4), some (.int q32.1), some (.int q33.1), none], [.ref 76], (iq_sh l, q33.2, q32.2.2.1, q32.2.2.2))) (fun _ => rfl) ?_
  obtain ⟨q34, hq34, h⟩ := iq_bnd h
  refine iq_G_call (σ' := (923, [some (.ref 0), some (.ref 1), some (.ref 76), some (.ref 114), some (.int x4), some (.int q32.1), some (.int q33.1), none], [.int q34], (iq_sh l, q33.2, q32.2.2.1, q32.2.2.2))) (fun _ => rfl) (zM_thrown_ok l  q33.2 q32.2.2.1 q32.2.2.2 hq34) rfl rfl ?_
  refine iq_G_go (k := 1) (σ' := (925, [some (.ref 0), some (.ref 1), some (.ref 76), some (.ref 114), some (.int x4), some (.int q32.1), some (.int q33.1), none], [.int q32.1, .int q34], (iq_sh l, q33.2, q32.2.2.1, q32.2.2.2))) (fun _ => rfl) ?_
  rcases iq_ite h with ⟨hc_, h⟩ | ⟨hc_, h⟩
  · refine iq_G_pos (c := q34 = q32.1) (σ1 := (930, [some (.ref 0), some (.ref 1), some (.ref 76), some (.ref 114), some (.int x4), some (.int q32.1), some (.int q33.1), none], [], (iq_sh l, q33.2, q32.2.2.1, q32.2.2.2))) (fun _ => rfl) hc_ ?_
    refine iq_G_go (k := 1) (σ' := (932, [some (.ref 0), some (.ref 1), some (.ref 76), some (.ref 114), some (.int x4), some (.int q32.1), some (.int q33.1), none], [.int q32.1], (iq_sh l, q33.2, q32.2.2.1, q32.2.2.2))) (fun _ => rfl) ?_
    rcases iq_ite h with ⟨hc_, h⟩ | ⟨hc_, h⟩
    · refine iq_G_pos (c := ¬ q32.1 = 0) (σ1 := (947, [some (.ref 0), some (.ref 1), some (.ref 76), some (.ref 114), some (.int x4), some (.int q32.1), some (.int q33.1), none], [], (iq_sh l, q33.2, q32.2.2.1, q32.2.2.2))) (fun _ => rfl) hc_ ?_
      refine iq_G_go (k := 1) (σ' := (2524, [some (.ref 0), some (.ref 1), some (.ref 76), some (.ref 114), some (.int x4), some (.int q32.1), some (.int q33.1), none], [], (iq_sh l, q33.2, q32.2.2.1, q32.2.2.2))) (fun _ => rfl) ?_
      refine iq_G_go (k := 2) (σ' := (23, [some (.ref 0), some (.ref 1), some (.ref 76), some (.ref 114), some (.int (x4 + (6 : Int32))), some (.int q32.1), some (.int q33.1), none], [], (iq_sh l, q33.2, q32.2.2.1, q32.2.2.2))) (fun _ => rfl) ?_
      cases h
      exact iq_G_fg (L := [some (.ref 0), some (.ref 1), some (.ref 76), some (.ref 114), some (.int (x4 + (6 : Int32))), none, none, none]) (And.intro rfl (And.intro rfl (And.intro rfl (And.intro rfl (And.intro rfl trivial))))) (hc ((x4 + (6 : Int32)), q33.2, q32.2.2.1, q32.2.2.2) rfl)
    · refine iq_G_neg (c := ¬ q32.1 = 0) (σ1 := (935, [some (.ref 0), some (.ref 1), some (.ref 76), some (.ref 114), some (.int x4), some (.int q32.1), some (.int q33.1), none], [], (iq_sh l, q33.2, q32.2.2.1, q32.2.2.2))) (fun _ => rfl) hc_ ?_
      refine iq_G_go (k := 2) (σ' := (937, [some (.ref 0), some (.ref 1), some (.ref 76), some (.ref 114), some (.int x4), some (.int q32.1), some (.int q33.1), none], [.int (0 : Int32), .ref 114], (iq_sh l, q33.2, q32.2.2.1, q32.2.2.2))) (fun _ => rfl) ?_
      refine iq_G_go (k := 1) (σ' := (938, [some (.ref 0), some (.ref 1), some (.ref 76), some (.ref 114), some (.int x4), some (.int q32.1), some (.int q33.1), none], [.long (q32.2.2.1 114 0)], (iq_sh l, q33.2, q32.2.2.1, q32.2.2.2))) (fun _ => rfl) ?_
      refine iq_G_go (k := 3) (σ' := (942, [some (.ref 0), some (.ref 1), some (.ref 76), some (.ref 114), some (.int x4), some (.int q32.1), some (.int q33.1), none], [.int (lg_cmp (q32.2.2.1 114 0) (Int32.toInt64 q33.1))], (iq_sh l, q33.2, q32.2.2.1, q32.2.2.2))) (fun _ => rfl) ?_
      rcases iq_ite h with ⟨hc_, h⟩ | ⟨hc_, h⟩
      · refine iq_G_pos (c := (lg_cmp (q32.2.2.1 114 0) (Int32.toInt64 q33.1)) = 0) (σ1 := (947, [some (.ref 0), some (.ref 1), some (.ref 76), some (.ref 114), some (.int x4), some (.int q32.1), some (.int q33.1), none], [], (iq_sh l, q33.2, q32.2.2.1, q32.2.2.2))) (fun _ => rfl) hc_ ?_
        refine iq_G_go (k := 1) (σ' := (2524, [some (.ref 0), some (.ref 1), some (.ref 76), some (.ref 114), some (.int x4), some (.int q32.1), some (.int q33.1), none], [], (iq_sh l, q33.2, q32.2.2.1, q32.2.2.2))) (fun _ => rfl) ?_
        refine iq_G_go (k := 2) (σ' := (23, [some (.ref 0), some (.ref 1), some (.ref 76), some (.ref 114), some (.int (x4 + (6 : Int32))), some (.int q32.1), some (.int q33.1), none], [], (iq_sh l, q33.2, q32.2.2.1, q32.2.2.2))) (fun _ => rfl) ?_
        cases h
        exact iq_G_fg (L := [some (.ref 0), some (.ref 1), some (.ref 76), some (.ref 114), some (.int (x4 + (6 : Int32))), none, none, none]) (And.intro rfl (And.intro rfl (And.intro rfl (And.intro rfl (And.intro rfl trivial))))) (hc ((x4 + (6 : Int32)), q33.2, q32.2.2.1, q32.2.2.2) rfl)
      · refine iq_G_neg (c := (lg_cmp (q32.2.2.1 114 0) (Int32.toInt64 q33.1)) = 0) (σ1 := (945, [some (.ref 0), some (.ref 1), some (.ref 76), some (.ref 114), some (.int x4), some (.int q32.1), some (.int q33.1), none], [], (iq_sh l, q33.2, q32.2.2.1, q32.2.2.2))) (fun _ => rfl) hc_ ?_
        refine iq_G_go (k := 1) (σ' := (946, [some (.ref 0), some (.ref 1), some (.ref 76), some (.ref 114), some (.int x4), some (.int q32.1), some (.int q33.1), none], [.int (0 : Int32)], (iq_sh l, q33.2, q32.2.2.1, q32.2.2.2))) (fun _ => rfl) ?_
        cases h
        obtain rfl := (hx _ rfl).2 _ rfl
        exact iq_G_ret (fun _ => rfl)
  · refine iq_G_neg (c := q34 = q32.1) (σ1 := (928, [some (.ref 0), some (.ref 1), some (.ref 76), some (.ref 114), some (.int x4), some (.int q32.1), some (.int q33.1), none], [], (iq_sh l, q33.2, q32.2.2.1, q32.2.2.2))) (fun _ => rfl) hc_ ?_
    refine iq_G_go (k := 1) (σ' := (929, [some (.ref 0), some (.ref 1), some (.ref 76), some (.ref 114), some (.int x4), some (.int q32.1), some (.int q33.1), none], [.int (0 : Int32)], (iq_sh l, q33.2, q32.2.2.1, q32.2.2.2))) (fun _ => rfl) ?_
    cases h
    obtain rfl := (hx _ rfl).2 _ rfl
    exact iq_G_ret (fun _ => rfl)
set_option maxRecDepth 100000 in
theorem zL_law_950_ok (l : Nat)  (x4 : Int32) (I : iq_I) (J : iq_J) (X : iq_X)  {q : (Int32 × iq_I × iq_J × iq_X) ⊕ ((iq_I × iq_J × iq_X) ⊕ (Int32 × iq_I × iq_J × iq_X))} (h : zL_law_950 l x4 I J X = some q) (r : iq_R × iq_M) (hc : ∀ v, q = .inl v → iq_Gg 72 357 (23, [some (.ref 0), some (.ref 1), some (.ref 76), some (.ref 114), some (.int v.1), none, none, none], [], (iq_sh l, v.2.1, v.2.2.1, v.2.2.2)) r) (hx : ∀ w, q = .inr w → (∀ a, w = .inl a → iq_Gg 72 357 (2530, [none, none, none, none, none, none, none, none], [], (iq_sh l, a.1, a.2.1, a.2.2)) r) ∧ (∀ b, w = .inr b → r = (.inl (some (.int b.1)), (iq_sh l, b.2.1, b.2.2.1, b.2.2.2)))) : iq_Gg 72 357 (950, [some (.ref 0), some (.ref 1), some (.ref 76), some (.ref 114), some (.int x4), none, none, none], [], (iq_sh l, I, J, X)) r := by
  unfold zL_law_950 at h
  refine iq_G_go (k := 1) (σ' := (951, [some (.ref 0), some (.ref 1), some (.ref 76), some (.ref 114), some (.int x4), none, none, none], [.ref 1], (iq_sh l, I, J, X))) (fun _ => rfl) ?_
  obtain ⟨q35, hq35, h⟩ := iq_bnd h
  refine iq_G_call (σ' := (954, [some (.ref 0), some (.ref 1), some (.ref 76), some (.ref 114), some (.int x4), none, none, none], [.int q35.1], (iq_sh l, q35.2, J, X))) (fun _ => rfl) (zO_day_ok l  I J X hq35) rfl rfl ?_
  refine iq_G_go (k := 1) (σ' := (955, [some (.ref 0), some (.ref 1), some (.ref 76), some (.ref 114), some (.int x4), none, none, none], [.ref 76, .int q35.1], (iq_sh l, q35.2, J, X))) (fun _ => rfl) ?_
  obtain ⟨q36, hq36, h⟩ := iq_bnd h
  refine iq_G_call (σ' := (958, [some (.ref 0), some (.ref 1), some (.ref 76), some (.ref 114), some (.int x4), none, none, none], [.int q36.1, .int q35.1], (iq_sh l, q36.2, J, X))) (fun _ => rfl) (zM_day_ok l  q35.2 J X hq36) rfl rfl ?_
  rcases iq_ite h with ⟨hc_, h⟩ | ⟨hc_, h⟩
  · refine iq_G_pos (c := q35.1 = q36.1) (σ1 := (2524, [some (.ref 0), some (.ref 1), some (.ref 76), some (.ref 114), some (.int x4), none, none, none], [], (iq_sh l, q36.2, J, X))) (fun _ => rfl) hc_ ?_
    refine iq_G_go (k := 2) (σ' := (23, [some (.ref 0), some (.ref 1), some (.ref 76), some (.ref 114), some (.int (x4 + (6 : Int32))), none, none, none], [], (iq_sh l, q36.2, J, X))) (fun _ => rfl) ?_
    cases h
    exact iq_G_fg (L := [some (.ref 0), some (.ref 1), some (.ref 76), some (.ref 114), some (.int (x4 + (6 : Int32))), none, none, none]) (And.intro rfl (And.intro rfl (And.intro rfl (And.intro rfl (And.intro rfl trivial))))) (hc ((x4 + (6 : Int32)), q36.2, J, X) rfl)
  · refine iq_G_neg (c := q35.1 = q36.1) (σ1 := (961, [some (.ref 0), some (.ref 1), some (.ref 76), some (.ref 114), some (.int x4), none, none, none], [], (iq_sh l, q36.2, J, X))) (fun _ => rfl) hc_ ?_
    refine iq_G_go (k := 1) (σ' := (962, [some (.ref 0), some (.ref 1), some (.ref 76), some (.ref 114), some (.int x4), none, none, none], [.int (0 : Int32)], (iq_sh l, q36.2, J, X))) (fun _ => rfl) ?_
    cases h
    obtain rfl := (hx _ rfl).2 _ rfl
    exact iq_G_ret (fun _ => rfl)
set_option maxRecDepth 100000 in
theorem zL_law_963_ok (l : Nat)  (x4 : Int32) (I : iq_I) (J : iq_J) (X : iq_X)  {q : (Int32 × iq_I × iq_J × iq_X) ⊕ ((iq_I × iq_J × iq_X) ⊕ (Int32 × iq_I × iq_J × iq_X))} (h : zL_law_963 l x4 I J X = some q) (r : iq_R × iq_M) (hc : ∀ v, q = .inl v → iq_Gg 72 357 (23, [some (.ref 0), some (.ref 1), some (.ref 76), some (.ref 114), some (.int v.1), none, none, none], [], (iq_sh l, v.2.1, v.2.2.1, v.2.2.2)) r) (hx : ∀ w, q = .inr w → (∀ a, w = .inl a → iq_Gg 72 357 (2530, [none, none, none, none, none, none, none, none], [], (iq_sh l, a.1, a.2.1, a.2.2)) r) ∧ (∀ b, w = .inr b → r = (.inl (some (.int b.1)), (iq_sh l, b.2.1, b.2.2.1, b.2.2.2)))) : iq_Gg 72 357 (963, [some (.ref 0), some (.ref 1), some (.ref 76), some (.ref 114), some (.int x4), none, none, none], [], (iq_sh l, I, J, X)) r := by
  unfold zL_law_963 at h
  refine iq_G_go (k := 1) (σ' := (964, [some (.ref 0), some (.ref 1), some (.ref 76), some (.ref 114), some (.int x4), none, none, none], [.ref 1], (iq_sh l, I, J, X))) (fun _ => rfl) ?_
  obtain ⟨q37, hq37, h⟩ := iq_bnd h
  refine iq_G_call (σ' := (967, [some (.ref 0), some (.ref 1), some (.ref 76), some (.ref 114), some (.int x4), none, none, none], [.int q37.1], (iq_sh l, q37.2, J, X))) (fun _ => rfl) (zO_undo_ok l  I J X hq37) rfl rfl ?_
  refine iq_G_go (k := 1) (σ' := (968, [some (.ref 0), some (.ref 1), some (.ref 76), some (.ref 114), some (.int x4), none, none, none], [.ref 76, .int q37.1], (iq_sh l, q37.2, J, X))) (fun _ => rfl) ?_
  obtain ⟨q38, hq38, h⟩ := iq_bnd h
  refine iq_G_call (σ' := (971, [some (.ref 0), some (.ref 1), some (.ref 76), some (.ref 114), some (.int x4), none, none, none], [.int q38.1, .int q37.1], (iq_sh l, q38.2, J, X))) (fun _ => rfl) (zM_undo_ok l  q37.2 J X hq38) rfl rfl ?_
  rcases iq_ite h with ⟨hc_, h⟩ | ⟨hc_, h⟩
  · refine iq_G_pos (c := q37.1 = q38.1) (σ1 := (2524, [some (.ref 0), some (.ref 1), some (.ref 76), some (.ref 114), some (.int x4), none, none, none], [], (iq_sh l, q38.2, J, X))) (fun _ => rfl) hc_ ?_
    refine iq_G_go (k := 2) (σ' := (23, [some (.ref 0), some (.ref 1), some (.ref 76), some (.ref 114), some (.int (x4 + (6 : Int32))), none, none, none], [], (iq_sh l, q38.2, J, X))) (fun _ => rfl) ?_
    cases h
    exact iq_G_fg (L := [some (.ref 0), some (.ref 1), some (.ref 76), some (.ref 114), some (.int (x4 + (6 : Int32))), none, none, none]) (And.intro rfl (And.intro rfl (And.intro rfl (And.intro rfl (And.intro rfl trivial))))) (hc ((x4 + (6 : Int32)), q38.2, J, X) rfl)
  · refine iq_G_neg (c := q37.1 = q38.1) (σ1 := (974, [some (.ref 0), some (.ref 1), some (.ref 76), some (.ref 114), some (.int x4), none, none, none], [], (iq_sh l, q38.2, J, X))) (fun _ => rfl) hc_ ?_
    refine iq_G_go (k := 1) (σ' := (975, [some (.ref 0), some (.ref 1), some (.ref 76), some (.ref 114), some (.int x4), none, none, none], [.int (0 : Int32)], (iq_sh l, q38.2, J, X))) (fun _ => rfl) ?_
    cases h
    obtain rfl := (hx _ rfl).2 _ rfl
    exact iq_G_ret (fun _ => rfl)
set_option maxRecDepth 100000 in
theorem zL_law_976_ok (l : Nat)  (x4 : Int32) (I : iq_I) (J : iq_J) (X : iq_X)  {q : (Int32 × iq_I × iq_J × iq_X) ⊕ ((iq_I × iq_J × iq_X) ⊕ (Int32 × iq_I × iq_J × iq_X))} (h : zL_law_976 l x4 I J X = some q) (r : iq_R × iq_M) (hc : ∀ v, q = .inl v → iq_Gg 72 357 (23, [some (.ref 0), some (.ref 1), some (.ref 76), some (.ref 114), some (.int v.1), none, none, none], [], (iq_sh l, v.2.1, v.2.2.1, v.2.2.2)) r) (hx : ∀ w, q = .inr w → (∀ a, w = .inl a → iq_Gg 72 357 (2530, [none, none, none, none, none, none, none, none], [], (iq_sh l, a.1, a.2.1, a.2.2)) r) ∧ (∀ b, w = .inr b → r = (.inl (some (.int b.1)), (iq_sh l, b.2.1, b.2.2.1, b.2.2.2)))) : iq_Gg 72 357 (976, [some (.ref 0), some (.ref 1), some (.ref 76), some (.ref 114), some (.int x4), none, none, none], [], (iq_sh l, I, J, X)) r := by
  unfold zL_law_976 at h
  refine iq_G_go (k := 5) (σ' := (982, [some (.ref 0), some (.ref 1), some (.ref 76), some (.ref 114), some (.int x4), none, none, none], [.int (x4 + (1 : Int32)), .ref 0, .ref 1], (iq_sh l, I, J, X))) (fun _ => rfl) ?_
  obtain ⟨hc_, h⟩ := iq_itn h
  refine iq_G_pos (c := iq_in (x4 + (1 : Int32)) l) (σ1 := (983, [some (.ref 0), some (.ref 1), some (.ref 76), some (.ref 114), some (.int x4), none, none, none], [.int (I 0 (Int32.toNatClampNeg (x4 + (1 : Int32)))), .ref 1], (iq_sh l, I, J, X))) (fun _ => rfl) hc_ ?_
  refine iq_G_go (k := 1) (σ' := (984, [some (.ref 0), some (.ref 1), some (.ref 76), some (.ref 114), some (.int x4), none, none, none], [.ref 114, .int (I 0 (Int32.toNatClampNeg (x4 + (1 : Int32)))), .ref 1], (iq_sh l, I, J, X))) (fun _ => rfl) ?_
  obtain ⟨q39, hq39, h⟩ := iq_bnd h
  refine iq_G_call (σ' := (987, [some (.ref 0), some (.ref 1), some (.ref 76), some (.ref 114), some (.int x4), none, none, none], [.int q39.1], (iq_sh l, q39.2.1, q39.2.2.1, q39.2.2.2))) (fun _ => rfl) (zL_open_ok l (I 0 (Int32.toNatClampNeg (x4 + (1 : Int32)))) I J X hq39) rfl rfl ?_
  refine iq_G_go (k := 6) (σ' := (995, [some (.ref 0), some (.ref 1), some (.ref 76), some (.ref 114), some (.int x4), some (.int q39.1), none, none], [.int (x4 + (1 : Int32)), .ref 0, .ref 76], (iq_sh l, q39.2.1, q39.2.2.1, q39.2.2.2))) (fun _ => rfl) ?_
  obtain ⟨hc_, h⟩ := iq_itn h
  refine iq_G_pos (c := iq_in (x4 + (1 : Int32)) l) (σ1 := (996, [some (.ref 0), some (.ref 1), some (.ref 76), some (.ref 114), some (.int x4), some (.int q39.1), none, none], [.int (q39.2.1 0 (Int32.toNatClampNeg (x4 + (1 : Int32)))), .ref 76], (iq_sh l, q39.2.1, q39.2.2.1, q39.2.2.2))) (fun _ => rfl) hc_ ?_
  obtain ⟨q40, hq40, h⟩ := iq_bnd h
  refine iq_G_call (σ' := (999, [some (.ref 0), some (.ref 1), some (.ref 76), some (.ref 114), some (.int x4), some (.int q39.1), none, none], [.int q40.1], (iq_sh l, q40.2, q39.2.2.1, q39.2.2.2))) (fun _ => rfl) (zM_open_ok l (q39.2.1 0 (Int32.toNatClampNeg (x4 + (1 : Int32)))) q39.2.1 q39.2.2.1 q39.2.2.2 hq40) rfl rfl ?_
  refine iq_G_go (k := 2) (σ' := (1002, [some (.ref 0), some (.ref 1), some (.ref 76), some (.ref 114), some (.int x4), some (.int q39.1), some (.int q40.1), none], [.ref 76], (iq_sh l, q40.2, q39.2.2.1, q39.2.2.2))) (fun _ => rfl) ?_
  obtain ⟨q41, hq41, h⟩ := iq_bnd h
  refine iq_G_call (σ' := (1005, [some (.ref 0), some (.ref 1), some (.ref 76), some (.ref 114), some (.int x4), some (.int q39.1), some (.int q40.1), none], [.int q41], (iq_sh l, q40.2, q39.2.2.1, q39.2.2.2))) (fun _ => rfl) (zM_thrown_ok l  q40.2 q39.2.2.1 q39.2.2.2 hq41) rfl rfl ?_
  refine iq_G_go (k := 1) (σ' := (1007, [some (.ref 0), some (.ref 1), some (.ref 76), some (.ref 114), some (.int x4), some (.int q39.1), some (.int q40.1), none], [.int q39.1, .int q41], (iq_sh l, q40.2, q39.2.2.1, q39.2.2.2))) (fun _ => rfl) ?_
  rcases iq_ite h with ⟨hc_, h⟩ | ⟨hc_, h⟩
  · refine iq_G_pos (c := q41 = q39.1) (σ1 := (1012, [some (.ref 0), some (.ref 1), some (.ref 76), some (.ref 114), some (.int x4), some (.int q39.1), some (.int q40.1), none], [], (iq_sh l, q40.2, q39.2.2.1, q39.2.2.2))) (fun _ => rfl) hc_ ?_
    refine iq_G_go (k := 1) (σ' := (1014, [some (.ref 0), some (.ref 1), some (.ref 76), some (.ref 114), some (.int x4), some (.int q39.1), some (.int q40.1), none], [.int q39.1], (iq_sh l, q40.2, q39.2.2.1, q39.2.2.2))) (fun _ => rfl) ?_
    rcases iq_ite h with ⟨hc_, h⟩ | ⟨hc_, h⟩
    · refine iq_G_pos (c := ¬ q39.1 = 0) (σ1 := (1029, [some (.ref 0), some (.ref 1), some (.ref 76), some (.ref 114), some (.int x4), some (.int q39.1), some (.int q40.1), none], [], (iq_sh l, q40.2, q39.2.2.1, q39.2.2.2))) (fun _ => rfl) hc_ ?_
      refine iq_G_go (k := 1) (σ' := (2524, [some (.ref 0), some (.ref 1), some (.ref 76), some (.ref 114), some (.int x4), some (.int q39.1), some (.int q40.1), none], [], (iq_sh l, q40.2, q39.2.2.1, q39.2.2.2))) (fun _ => rfl) ?_
      refine iq_G_go (k := 2) (σ' := (23, [some (.ref 0), some (.ref 1), some (.ref 76), some (.ref 114), some (.int (x4 + (6 : Int32))), some (.int q39.1), some (.int q40.1), none], [], (iq_sh l, q40.2, q39.2.2.1, q39.2.2.2))) (fun _ => rfl) ?_
      cases h
      exact iq_G_fg (L := [some (.ref 0), some (.ref 1), some (.ref 76), some (.ref 114), some (.int (x4 + (6 : Int32))), none, none, none]) (And.intro rfl (And.intro rfl (And.intro rfl (And.intro rfl (And.intro rfl trivial))))) (hc ((x4 + (6 : Int32)), q40.2, q39.2.2.1, q39.2.2.2) rfl)
    · refine iq_G_neg (c := ¬ q39.1 = 0) (σ1 := (1017, [some (.ref 0), some (.ref 1), some (.ref 76), some (.ref 114), some (.int x4), some (.int q39.1), some (.int q40.1), none], [], (iq_sh l, q40.2, q39.2.2.1, q39.2.2.2))) (fun _ => rfl) hc_ ?_
      refine iq_G_go (k := 2) (σ' := (1019, [some (.ref 0), some (.ref 1), some (.ref 76), some (.ref 114), some (.int x4), some (.int q39.1), some (.int q40.1), none], [.int (0 : Int32), .ref 114], (iq_sh l, q40.2, q39.2.2.1, q39.2.2.2))) (fun _ => rfl) ?_
      refine iq_G_go (k := 1) (σ' := (1020, [some (.ref 0), some (.ref 1), some (.ref 76), some (.ref 114), some (.int x4), some (.int q39.1), some (.int q40.1), none], [.long (q39.2.2.1 114 0)], (iq_sh l, q40.2, q39.2.2.1, q39.2.2.2))) (fun _ => rfl) ?_
      refine iq_G_go (k := 3) (σ' := (1024, [some (.ref 0), some (.ref 1), some (.ref 76), some (.ref 114), some (.int x4), some (.int q39.1), some (.int q40.1), none], [.int (lg_cmp (q39.2.2.1 114 0) (Int32.toInt64 q40.1))], (iq_sh l, q40.2, q39.2.2.1, q39.2.2.2))) (fun _ => rfl) ?_
      rcases iq_ite h with ⟨hc_, h⟩ | ⟨hc_, h⟩
      · refine iq_G_pos (c := (lg_cmp (q39.2.2.1 114 0) (Int32.toInt64 q40.1)) = 0) (σ1 := (1029, [some (.ref 0), some (.ref 1), some (.ref 76), some (.ref 114), some (.int x4), some (.int q39.1), some (.int q40.1), none], [], (iq_sh l, q40.2, q39.2.2.1, q39.2.2.2))) (fun _ => rfl) hc_ ?_
        refine iq_G_go (k := 1) (σ' := (2524, [some (.ref 0), some (.ref 1), some (.ref 76), some (.ref 114), some (.int x4), some (.int q39.1), some (.int q40.1), none], [], (iq_sh l, q40.2, q39.2.2.1, q39.2.2.2))) (fun _ => rfl) ?_
        refine iq_G_go (k := 2) (σ' := (23, [some (.ref 0), some (.ref 1), some (.ref 76), some (.ref 114), some (.int (x4 + (6 : Int32))), some (.int q39.1), some (.int q40.1), none], [], (iq_sh l, q40.2, q39.2.2.1, q39.2.2.2))) (fun _ => rfl) ?_
        cases h
        exact iq_G_fg (L := [some (.ref 0), some (.ref 1), some (.ref 76), some (.ref 114), some (.int (x4 + (6 : Int32))), none, none, none]) (And.intro rfl (And.intro rfl (And.intro rfl (And.intro rfl (And.intro rfl trivial))))) (hc ((x4 + (6 : Int32)), q40.2, q39.2.2.1, q39.2.2.2) rfl)
      · refine iq_G_neg (c := (lg_cmp (q39.2.2.1 114 0) (Int32.toInt64 q40.1)) = 0) (σ1 := (1027, [some (.ref 0), some (.ref 1), some (.ref 76), some (.ref 114), some (.int x4), some (.int q39.1), some (.int q40.1), none], [], (iq_sh l, q40.2, q39.2.2.1, q39.2.2.2))) (fun _ => rfl) hc_ ?_
        refine iq_G_go (k := 1) (σ' := (1028, [some (.ref 0), some (.ref 1), some (.ref 76), some (.ref 114), some (.int x4), some (.int q39.1), some (.int q40.1), none], [.int (0 : Int32)], (iq_sh l, q40.2, q39.2.2.1, q39.2.2.2))) (fun _ => rfl) ?_
        cases h
        obtain rfl := (hx _ rfl).2 _ rfl
        exact iq_G_ret (fun _ => rfl)
  · refine iq_G_neg (c := q41 = q39.1) (σ1 := (1010, [some (.ref 0), some (.ref 1), some (.ref 76), some (.ref 114), some (.int x4), some (.int q39.1), some (.int q40.1), none], [], (iq_sh l, q40.2, q39.2.2.1, q39.2.2.2))) (fun _ => rfl) hc_ ?_
    refine iq_G_go (k := 1) (σ' := (1011, [some (.ref 0), some (.ref 1), some (.ref 76), some (.ref 114), some (.int x4), some (.int q39.1), some (.int q40.1), none], [.int (0 : Int32)], (iq_sh l, q40.2, q39.2.2.1, q39.2.2.2))) (fun _ => rfl) ?_
    cases h
    obtain rfl := (hx _ rfl).2 _ rfl
    exact iq_G_ret (fun _ => rfl)
set_option maxRecDepth 100000 in
theorem zL_law_1032_ok (l : Nat)  (x4 : Int32) (I : iq_I) (J : iq_J) (X : iq_X)  {q : (Int32 × iq_I × iq_J × iq_X) ⊕ ((iq_I × iq_J × iq_X) ⊕ (Int32 × iq_I × iq_J × iq_X))} (h : zL_law_1032 l x4 I J X = some q) (r : iq_R × iq_M) (hc : ∀ v, q = .inl v → iq_Gg 72 357 (23, [some (.ref 0), some (.ref 1), some (.ref 76), some (.ref 114), some (.int v.1), none, none, none], [], (iq_sh l, v.2.1, v.2.2.1, v.2.2.2)) r) (hx : ∀ w, q = .inr w → (∀ a, w = .inl a → iq_Gg 72 357 (2530, [none, none, none, none, none, none, none, none], [], (iq_sh l, a.1, a.2.1, a.2.2)) r) ∧ (∀ b, w = .inr b → r = (.inl (some (.int b.1)), (iq_sh l, b.2.1, b.2.2.1, b.2.2.2)))) : iq_Gg 72 357 (1032, [some (.ref 0), some (.ref 1), some (.ref 76), some (.ref 114), some (.int x4), none, none, none], [], (iq_sh l, I, J, X)) r := by
  unfold zL_law_1032 at h
  refine iq_G_go (k := 5) (σ' := (1038, [some (.ref 0), some (.ref 1), some (.ref 76), some (.ref 114), some (.int x4), none, none, none], [.int (x4 + (1 : Int32)), .ref 0, .ref 1], (iq_sh l, I, J, X))) (fun _ => rfl) ?_
  obtain ⟨hc_, h⟩ := iq_itn h
  refine iq_G_pos (c := iq_in (x4 + (1 : Int32)) l) (σ1 := (1039, [some (.ref 0), some (.ref 1), some (.ref 76), some (.ref 114), some (.int x4), none, none, none], [.int (I 0 (Int32.toNatClampNeg (x4 + (1 : Int32)))), .ref 1], (iq_sh l, I, J, X))) (fun _ => rfl) hc_ ?_
  refine iq_G_go (k := 4) (σ' := (1044, [some (.ref 0), some (.ref 1), some (.ref 76), some (.ref 114), some (.int x4), none, none, none], [.int (x4 + (2 : Int32)), .ref 0, .int (I 0 (Int32.toNatClampNeg (x4 + (1 : Int32)))), .ref 1], (iq_sh l, I, J, X))) (fun _ => rfl) ?_
  obtain ⟨hc_, h⟩ := iq_itn h
  refine iq_G_pos (c := iq_in (x4 + (2 : Int32)) l) (σ1 := (1045, [some (.ref 0), some (.ref 1), some (.ref 76), some (.ref 114), some (.int x4), none, none, none], [.int (I 0 (Int32.toNatClampNeg (x4 + (2 : Int32)))), .int (I 0 (Int32.toNatClampNeg (x4 + (1 : Int32)))), .ref 1], (iq_sh l, I, J, X))) (fun _ => rfl) hc_ ?_
  refine iq_G_go (k := 1) (σ' := (1046, [some (.ref 0), some (.ref 1), some (.ref 76), some (.ref 114), some (.int x4), none, none, none], [.ref 114, .int (I 0 (Int32.toNatClampNeg (x4 + (2 : Int32)))), .int (I 0 (Int32.toNatClampNeg (x4 + (1 : Int32)))), .ref 1], (iq_sh l, I, J, X))) (fun _ => rfl) ?_
  obtain ⟨q42, hq42, h⟩ := iq_bnd h
  refine iq_G_call (σ' := (1049, [some (.ref 0), some (.ref 1), some (.ref 76), some (.ref 114), some (.int x4), none, none, none], [.int q42.1], (iq_sh l, q42.2.1, q42.2.2.1, q42.2.2.2))) (fun _ => rfl) (zL_soonest_ok l (I 0 (Int32.toNatClampNeg (x4 + (1 : Int32)))) (I 0 (Int32.toNatClampNeg (x4 + (2 : Int32)))) I J X hq42) rfl rfl ?_
  refine iq_G_go (k := 6) (σ' := (1057, [some (.ref 0), some (.ref 1), some (.ref 76), some (.ref 114), some (.int x4), some (.int q42.1), none, none], [.int (x4 + (1 : Int32)), .ref 0, .ref 76], (iq_sh l, q42.2.1, q42.2.2.1, q42.2.2.2))) (fun _ => rfl) ?_
  obtain ⟨hc_, h⟩ := iq_itn h
  refine iq_G_pos (c := iq_in (x4 + (1 : Int32)) l) (σ1 := (1058, [some (.ref 0), some (.ref 1), some (.ref 76), some (.ref 114), some (.int x4), some (.int q42.1), none, none], [.int (q42.2.1 0 (Int32.toNatClampNeg (x4 + (1 : Int32)))), .ref 76], (iq_sh l, q42.2.1, q42.2.2.1, q42.2.2.2))) (fun _ => rfl) hc_ ?_
  refine iq_G_go (k := 4) (σ' := (1063, [some (.ref 0), some (.ref 1), some (.ref 76), some (.ref 114), some (.int x4), some (.int q42.1), none, none], [.int (x4 + (2 : Int32)), .ref 0, .int (q42.2.1 0 (Int32.toNatClampNeg (x4 + (1 : Int32)))), .ref 76], (iq_sh l, q42.2.1, q42.2.2.1, q42.2.2.2))) (fun _ => rfl) ?_
  obtain ⟨hc_, h⟩ := iq_itn h
  refine iq_G_pos (c := iq_in (x4 + (2 : Int32)) l) (σ1 := (1064, [some (.ref 0), some (.ref 1), some (.ref 76), some (.ref 114), some (.int x4), some (.int q42.1), none, none], [.int (q42.2.1 0 (Int32.toNatClampNeg (x4 + (2 : Int32)))), .int (q42.2.1 0 (Int32.toNatClampNeg (x4 + (1 : Int32)))), .ref 76], (iq_sh l, q42.2.1, q42.2.2.1, q42.2.2.2))) (fun _ => rfl) hc_ ?_
  obtain ⟨q43, hq43, h⟩ := iq_bnd h
  refine iq_G_call (σ' := (1067, [some (.ref 0), some (.ref 1), some (.ref 76), some (.ref 114), some (.int x4), some (.int q42.1), none, none], [.int q43.1], (iq_sh l, q43.2, q42.2.2.1, q42.2.2.2))) (fun _ => rfl) (zM_soonest_ok l (q42.2.1 0 (Int32.toNatClampNeg (x4 + (1 : Int32)))) (q42.2.1 0 (Int32.toNatClampNeg (x4 + (2 : Int32)))) q42.2.1 q42.2.2.1 q42.2.2.2 hq43) rfl rfl ?_
  refine iq_G_go (k := 2) (σ' := (1070, [some (.ref 0), some (.ref 1), some (.ref 76), some (.ref 114), some (.int x4), some (.int q42.1), some (.int q43.1), none], [.ref 76], (iq_sh l, q43.2, q42.2.2.1, q42.2.2.2))) (fun _ => rfl) ?_
  obtain ⟨q44, hq44, h⟩ := iq_bnd h
  refine iq_G_call (σ' := (1073, [some (.ref 0), some (.ref 1), some (.ref 76), some (.ref 114), some (.int x4), some (.int q42.1), some (.int q43.1), none], [.int q44], (iq_sh l, q43.2, q42.2.2.1, q42.2.2.2))) (fun _ => rfl) (zM_thrown_ok l  q43.2 q42.2.2.1 q42.2.2.2 hq44) rfl rfl ?_
  refine iq_G_go (k := 1) (σ' := (1075, [some (.ref 0), some (.ref 1), some (.ref 76), some (.ref 114), some (.int x4), some (.int q42.1), some (.int q43.1), none], [.int q42.1, .int q44], (iq_sh l, q43.2, q42.2.2.1, q42.2.2.2))) (fun _ => rfl) ?_
  rcases iq_ite h with ⟨hc_, h⟩ | ⟨hc_, h⟩
  · refine iq_G_pos (c := q44 = q42.1) (σ1 := (1080, [some (.ref 0), some (.ref 1), some (.ref 76), some (.ref 114), some (.int x4), some (.int q42.1), some (.int q43.1), none], [], (iq_sh l, q43.2, q42.2.2.1, q42.2.2.2))) (fun _ => rfl) hc_ ?_
    refine iq_G_go (k := 1) (σ' := (1082, [some (.ref 0), some (.ref 1), some (.ref 76), some (.ref 114), some (.int x4), some (.int q42.1), some (.int q43.1), none], [.int q42.1], (iq_sh l, q43.2, q42.2.2.1, q42.2.2.2))) (fun _ => rfl) ?_
    rcases iq_ite h with ⟨hc_, h⟩ | ⟨hc_, h⟩
    · refine iq_G_pos (c := ¬ q42.1 = 0) (σ1 := (1097, [some (.ref 0), some (.ref 1), some (.ref 76), some (.ref 114), some (.int x4), some (.int q42.1), some (.int q43.1), none], [], (iq_sh l, q43.2, q42.2.2.1, q42.2.2.2))) (fun _ => rfl) hc_ ?_
      refine iq_G_go (k := 1) (σ' := (2524, [some (.ref 0), some (.ref 1), some (.ref 76), some (.ref 114), some (.int x4), some (.int q42.1), some (.int q43.1), none], [], (iq_sh l, q43.2, q42.2.2.1, q42.2.2.2))) (fun _ => rfl) ?_
      refine iq_G_go (k := 2) (σ' := (23, [some (.ref 0), some (.ref 1), some (.ref 76), some (.ref 114), some (.int (x4 + (6 : Int32))), some (.int q42.1), some (.int q43.1), none], [], (iq_sh l, q43.2, q42.2.2.1, q42.2.2.2))) (fun _ => rfl) ?_
      cases h
      exact iq_G_fg (L := [some (.ref 0), some (.ref 1), some (.ref 76), some (.ref 114), some (.int (x4 + (6 : Int32))), none, none, none]) (And.intro rfl (And.intro rfl (And.intro rfl (And.intro rfl (And.intro rfl trivial))))) (hc ((x4 + (6 : Int32)), q43.2, q42.2.2.1, q42.2.2.2) rfl)
    · refine iq_G_neg (c := ¬ q42.1 = 0) (σ1 := (1085, [some (.ref 0), some (.ref 1), some (.ref 76), some (.ref 114), some (.int x4), some (.int q42.1), some (.int q43.1), none], [], (iq_sh l, q43.2, q42.2.2.1, q42.2.2.2))) (fun _ => rfl) hc_ ?_
      refine iq_G_go (k := 2) (σ' := (1087, [some (.ref 0), some (.ref 1), some (.ref 76), some (.ref 114), some (.int x4), some (.int q42.1), some (.int q43.1), none], [.int (0 : Int32), .ref 114], (iq_sh l, q43.2, q42.2.2.1, q42.2.2.2))) (fun _ => rfl) ?_
      refine iq_G_go (k := 1) (σ' := (1088, [some (.ref 0), some (.ref 1), some (.ref 76), some (.ref 114), some (.int x4), some (.int q42.1), some (.int q43.1), none], [.long (q42.2.2.1 114 0)], (iq_sh l, q43.2, q42.2.2.1, q42.2.2.2))) (fun _ => rfl) ?_
      refine iq_G_go (k := 3) (σ' := (1092, [some (.ref 0), some (.ref 1), some (.ref 76), some (.ref 114), some (.int x4), some (.int q42.1), some (.int q43.1), none], [.int (lg_cmp (q42.2.2.1 114 0) (Int32.toInt64 q43.1))], (iq_sh l, q43.2, q42.2.2.1, q42.2.2.2))) (fun _ => rfl) ?_
      rcases iq_ite h with ⟨hc_, h⟩ | ⟨hc_, h⟩
      · refine iq_G_pos (c := (lg_cmp (q42.2.2.1 114 0) (Int32.toInt64 q43.1)) = 0) (σ1 := (1097, [some (.ref 0), some (.ref 1), some (.ref 76), some (.ref 114), some (.int x4), some (.int q42.1), some (.int q43.1), none], [], (iq_sh l, q43.2, q42.2.2.1, q42.2.2.2))) (fun _ => rfl) hc_ ?_
        refine iq_G_go (k := 1) (σ' := (2524, [some (.ref 0), some (.ref 1), some (.ref 76), some (.ref 114), some (.int x4), some (.int q42.1), some (.int q43.1), none], [], (iq_sh l, q43.2, q42.2.2.1, q42.2.2.2))) (fun _ => rfl) ?_
        refine iq_G_go (k := 2) (σ' := (23, [some (.ref 0), some (.ref 1), some (.ref 76), some (.ref 114), some (.int (x4 + (6 : Int32))), some (.int q42.1), some (.int q43.1), none], [], (iq_sh l, q43.2, q42.2.2.1, q42.2.2.2))) (fun _ => rfl) ?_
        cases h
        exact iq_G_fg (L := [some (.ref 0), some (.ref 1), some (.ref 76), some (.ref 114), some (.int (x4 + (6 : Int32))), none, none, none]) (And.intro rfl (And.intro rfl (And.intro rfl (And.intro rfl (And.intro rfl trivial))))) (hc ((x4 + (6 : Int32)), q43.2, q42.2.2.1, q42.2.2.2) rfl)
      · refine iq_G_neg (c := (lg_cmp (q42.2.2.1 114 0) (Int32.toInt64 q43.1)) = 0) (σ1 := (1095, [some (.ref 0), some (.ref 1), some (.ref 76), some (.ref 114), some (.int x4), some (.int q42.1), some (.int q43.1), none], [], (iq_sh l, q43.2, q42.2.2.1, q42.2.2.2))) (fun _ => rfl) hc_ ?_
        refine iq_G_go (k := 1) (σ' := (1096, [some (.ref 0), some (.ref 1), some (.ref 76), some (.ref 114), some (.int x4), some (.int q42.1), some (.int q43.1), none], [.int (0 : Int32)], (iq_sh l, q43.2, q42.2.2.1, q42.2.2.2))) (fun _ => rfl) ?_
        cases h
        obtain rfl := (hx _ rfl).2 _ rfl
        exact iq_G_ret (fun _ => rfl)
  · refine iq_G_neg (c := q44 = q42.1) (σ1 := (1078, [some (.ref 0), some (.ref 1), some (.ref 76), some (.ref 114), some (.int x4), some (.int q42.1), some (.int q43.1), none], [], (iq_sh l, q43.2, q42.2.2.1, q42.2.2.2))) (fun _ => rfl) hc_ ?_
    refine iq_G_go (k := 1) (σ' := (1079, [some (.ref 0), some (.ref 1), some (.ref 76), some (.ref 114), some (.int x4), some (.int q42.1), some (.int q43.1), none], [.int (0 : Int32)], (iq_sh l, q43.2, q42.2.2.1, q42.2.2.2))) (fun _ => rfl) ?_
    cases h
    obtain rfl := (hx _ rfl).2 _ rfl
    exact iq_G_ret (fun _ => rfl)
set_option maxRecDepth 100000 in
theorem zL_law_1100_ok (l : Nat)  (x4 : Int32) (I : iq_I) (J : iq_J) (X : iq_X)  {q : (Int32 × iq_I × iq_J × iq_X) ⊕ ((iq_I × iq_J × iq_X) ⊕ (Int32 × iq_I × iq_J × iq_X))} (h : zL_law_1100 l x4 I J X = some q) (r : iq_R × iq_M) (hc : ∀ v, q = .inl v → iq_Gg 72 357 (23, [some (.ref 0), some (.ref 1), some (.ref 76), some (.ref 114), some (.int v.1), none, none, none], [], (iq_sh l, v.2.1, v.2.2.1, v.2.2.2)) r) (hx : ∀ w, q = .inr w → (∀ a, w = .inl a → iq_Gg 72 357 (2530, [none, none, none, none, none, none, none, none], [], (iq_sh l, a.1, a.2.1, a.2.2)) r) ∧ (∀ b, w = .inr b → r = (.inl (some (.int b.1)), (iq_sh l, b.2.1, b.2.2.1, b.2.2.2)))) : iq_Gg 72 357 (1100, [some (.ref 0), some (.ref 1), some (.ref 76), some (.ref 114), some (.int x4), none, none, none], [], (iq_sh l, I, J, X)) r := by
  unfold zL_law_1100 at h
  refine iq_G_go (k := 5) (σ' := (1106, [some (.ref 0), some (.ref 1), some (.ref 76), some (.ref 114), some (.int x4), none, none, none], [.int (x4 + (1 : Int32)), .ref 0, .ref 1], (iq_sh l, I, J, X))) (fun _ => rfl) ?_
  obtain ⟨hc_, h⟩ := iq_itn h
  refine iq_G_pos (c := iq_in (x4 + (1 : Int32)) l) (σ1 := (1107, [some (.ref 0), some (.ref 1), some (.ref 76), some (.ref 114), some (.int x4), none, none, none], [.int (I 0 (Int32.toNatClampNeg (x4 + (1 : Int32)))), .ref 1], (iq_sh l, I, J, X))) (fun _ => rfl) hc_ ?_
  refine iq_G_go (k := 1) (σ' := (1108, [some (.ref 0), some (.ref 1), some (.ref 76), some (.ref 114), some (.int x4), none, none, none], [.ref 114, .int (I 0 (Int32.toNatClampNeg (x4 + (1 : Int32)))), .ref 1], (iq_sh l, I, J, X))) (fun _ => rfl) ?_
  obtain ⟨q45, hq45, h⟩ := iq_bnd h
  refine iq_G_call (σ' := (1111, [some (.ref 0), some (.ref 1), some (.ref 76), some (.ref 114), some (.int x4), none, none, none], [.int q45.1], (iq_sh l, q45.2.1, q45.2.2.1, q45.2.2.2))) (fun _ => rfl) (zL_must_ok l (I 0 (Int32.toNatClampNeg (x4 + (1 : Int32)))) I J X hq45) rfl rfl ?_
  refine iq_G_go (k := 6) (σ' := (1119, [some (.ref 0), some (.ref 1), some (.ref 76), some (.ref 114), some (.int x4), some (.int q45.1), none, none], [.int (x4 + (1 : Int32)), .ref 0, .ref 76], (iq_sh l, q45.2.1, q45.2.2.1, q45.2.2.2))) (fun _ => rfl) ?_
  obtain ⟨hc_, h⟩ := iq_itn h
  refine iq_G_pos (c := iq_in (x4 + (1 : Int32)) l) (σ1 := (1120, [some (.ref 0), some (.ref 1), some (.ref 76), some (.ref 114), some (.int x4), some (.int q45.1), none, none], [.int (q45.2.1 0 (Int32.toNatClampNeg (x4 + (1 : Int32)))), .ref 76], (iq_sh l, q45.2.1, q45.2.2.1, q45.2.2.2))) (fun _ => rfl) hc_ ?_
  obtain ⟨q46, hq46, h⟩ := iq_bnd h
  refine iq_G_call (σ' := (1123, [some (.ref 0), some (.ref 1), some (.ref 76), some (.ref 114), some (.int x4), some (.int q45.1), none, none], [.int q46.1], (iq_sh l, q46.2, q45.2.2.1, q45.2.2.2))) (fun _ => rfl) (zM_must_ok l (q45.2.1 0 (Int32.toNatClampNeg (x4 + (1 : Int32)))) q45.2.1 q45.2.2.1 q45.2.2.2 hq46) rfl rfl ?_
  refine iq_G_go (k := 2) (σ' := (1126, [some (.ref 0), some (.ref 1), some (.ref 76), some (.ref 114), some (.int x4), some (.int q45.1), some (.int q46.1), none], [.ref 76], (iq_sh l, q46.2, q45.2.2.1, q45.2.2.2))) (fun _ => rfl) ?_
  obtain ⟨q47, hq47, h⟩ := iq_bnd h
  refine iq_G_call (σ' := (1129, [some (.ref 0), some (.ref 1), some (.ref 76), some (.ref 114), some (.int x4), some (.int q45.1), some (.int q46.1), none], [.int q47], (iq_sh l, q46.2, q45.2.2.1, q45.2.2.2))) (fun _ => rfl) (zM_thrown_ok l  q46.2 q45.2.2.1 q45.2.2.2 hq47) rfl rfl ?_
  refine iq_G_go (k := 1) (σ' := (1131, [some (.ref 0), some (.ref 1), some (.ref 76), some (.ref 114), some (.int x4), some (.int q45.1), some (.int q46.1), none], [.int q45.1, .int q47], (iq_sh l, q46.2, q45.2.2.1, q45.2.2.2))) (fun _ => rfl) ?_
  rcases iq_ite h with ⟨hc_, h⟩ | ⟨hc_, h⟩
  · refine iq_G_pos (c := q47 = q45.1) (σ1 := (1136, [some (.ref 0), some (.ref 1), some (.ref 76), some (.ref 114), some (.int x4), some (.int q45.1), some (.int q46.1), none], [], (iq_sh l, q46.2, q45.2.2.1, q45.2.2.2))) (fun _ => rfl) hc_ ?_
    refine iq_G_go (k := 1) (σ' := (1138, [some (.ref 0), some (.ref 1), some (.ref 76), some (.ref 114), some (.int x4), some (.int q45.1), some (.int q46.1), none], [.int q45.1], (iq_sh l, q46.2, q45.2.2.1, q45.2.2.2))) (fun _ => rfl) ?_
    rcases iq_ite h with ⟨hc_, h⟩ | ⟨hc_, h⟩
    · refine iq_G_pos (c := ¬ q45.1 = 0) (σ1 := (1153, [some (.ref 0), some (.ref 1), some (.ref 76), some (.ref 114), some (.int x4), some (.int q45.1), some (.int q46.1), none], [], (iq_sh l, q46.2, q45.2.2.1, q45.2.2.2))) (fun _ => rfl) hc_ ?_
      refine iq_G_go (k := 1) (σ' := (2524, [some (.ref 0), some (.ref 1), some (.ref 76), some (.ref 114), some (.int x4), some (.int q45.1), some (.int q46.1), none], [], (iq_sh l, q46.2, q45.2.2.1, q45.2.2.2))) (fun _ => rfl) ?_
      refine iq_G_go (k := 2) (σ' := (23, [some (.ref 0), some (.ref 1), some (.ref 76), some (.ref 114), some (.int (x4 + (6 : Int32))), some (.int q45.1), some (.int q46.1), none], [], (iq_sh l, q46.2, q45.2.2.1, q45.2.2.2))) (fun _ => rfl) ?_
      cases h
      exact iq_G_fg (L := [some (.ref 0), some (.ref 1), some (.ref 76), some (.ref 114), some (.int (x4 + (6 : Int32))), none, none, none]) (And.intro rfl (And.intro rfl (And.intro rfl (And.intro rfl (And.intro rfl trivial))))) (hc ((x4 + (6 : Int32)), q46.2, q45.2.2.1, q45.2.2.2) rfl)
    · refine iq_G_neg (c := ¬ q45.1 = 0) (σ1 := (1141, [some (.ref 0), some (.ref 1), some (.ref 76), some (.ref 114), some (.int x4), some (.int q45.1), some (.int q46.1), none], [], (iq_sh l, q46.2, q45.2.2.1, q45.2.2.2))) (fun _ => rfl) hc_ ?_
      refine iq_G_go (k := 2) (σ' := (1143, [some (.ref 0), some (.ref 1), some (.ref 76), some (.ref 114), some (.int x4), some (.int q45.1), some (.int q46.1), none], [.int (0 : Int32), .ref 114], (iq_sh l, q46.2, q45.2.2.1, q45.2.2.2))) (fun _ => rfl) ?_
      refine iq_G_go (k := 1) (σ' := (1144, [some (.ref 0), some (.ref 1), some (.ref 76), some (.ref 114), some (.int x4), some (.int q45.1), some (.int q46.1), none], [.long (q45.2.2.1 114 0)], (iq_sh l, q46.2, q45.2.2.1, q45.2.2.2))) (fun _ => rfl) ?_
      refine iq_G_go (k := 3) (σ' := (1148, [some (.ref 0), some (.ref 1), some (.ref 76), some (.ref 114), some (.int x4), some (.int q45.1), some (.int q46.1), none], [.int (lg_cmp (q45.2.2.1 114 0) (Int32.toInt64 q46.1))], (iq_sh l, q46.2, q45.2.2.1, q45.2.2.2))) (fun _ => rfl) ?_
      rcases iq_ite h with ⟨hc_, h⟩ | ⟨hc_, h⟩
      · refine iq_G_pos (c := (lg_cmp (q45.2.2.1 114 0) (Int32.toInt64 q46.1)) = 0) (σ1 := (1153, [some (.ref 0), some (.ref 1), some (.ref 76), some (.ref 114), some (.int x4), some (.int q45.1), some (.int q46.1), none], [], (iq_sh l, q46.2, q45.2.2.1, q45.2.2.2))) (fun _ => rfl) hc_ ?_
        refine iq_G_go (k := 1) (σ' := (2524, [some (.ref 0), some (.ref 1), some (.ref 76), some (.ref 114), some (.int x4), some (.int q45.1), some (.int q46.1), none], [], (iq_sh l, q46.2, q45.2.2.1, q45.2.2.2))) (fun _ => rfl) ?_
        refine iq_G_go (k := 2) (σ' := (23, [some (.ref 0), some (.ref 1), some (.ref 76), some (.ref 114), some (.int (x4 + (6 : Int32))), some (.int q45.1), some (.int q46.1), none], [], (iq_sh l, q46.2, q45.2.2.1, q45.2.2.2))) (fun _ => rfl) ?_
        cases h
        exact iq_G_fg (L := [some (.ref 0), some (.ref 1), some (.ref 76), some (.ref 114), some (.int (x4 + (6 : Int32))), none, none, none]) (And.intro rfl (And.intro rfl (And.intro rfl (And.intro rfl (And.intro rfl trivial))))) (hc ((x4 + (6 : Int32)), q46.2, q45.2.2.1, q45.2.2.2) rfl)
      · refine iq_G_neg (c := (lg_cmp (q45.2.2.1 114 0) (Int32.toInt64 q46.1)) = 0) (σ1 := (1151, [some (.ref 0), some (.ref 1), some (.ref 76), some (.ref 114), some (.int x4), some (.int q45.1), some (.int q46.1), none], [], (iq_sh l, q46.2, q45.2.2.1, q45.2.2.2))) (fun _ => rfl) hc_ ?_
        refine iq_G_go (k := 1) (σ' := (1152, [some (.ref 0), some (.ref 1), some (.ref 76), some (.ref 114), some (.int x4), some (.int q45.1), some (.int q46.1), none], [.int (0 : Int32)], (iq_sh l, q46.2, q45.2.2.1, q45.2.2.2))) (fun _ => rfl) ?_
        cases h
        obtain rfl := (hx _ rfl).2 _ rfl
        exact iq_G_ret (fun _ => rfl)
  · refine iq_G_neg (c := q47 = q45.1) (σ1 := (1134, [some (.ref 0), some (.ref 1), some (.ref 76), some (.ref 114), some (.int x4), some (.int q45.1), some (.int q46.1), none], [], (iq_sh l, q46.2, q45.2.2.1, q45.2.2.2))) (fun _ => rfl) hc_ ?_
    refine iq_G_go (k := 1) (σ' := (1135, [some (.ref 0), some (.ref 1), some (.ref 76), some (.ref 114), some (.int x4), some (.int q45.1), some (.int q46.1), none], [.int (0 : Int32)], (iq_sh l, q46.2, q45.2.2.1, q45.2.2.2))) (fun _ => rfl) ?_
    cases h
    obtain rfl := (hx _ rfl).2 _ rfl
    exact iq_G_ret (fun _ => rfl)
set_option maxRecDepth 100000 in
theorem zL_law_1216_ok (l : Nat)  (x4 : Int32) (x5 : Int32) (s1 : Int32) (s2 : Int32) (s3 : Int32) (I : iq_I) (J : iq_J) (X : iq_X)  {q : (Int32 × iq_I × iq_J × iq_X) ⊕ ((iq_I × iq_J × iq_X) ⊕ (Int32 × iq_I × iq_J × iq_X))} (h : zL_law_1216 l x4 x5 s1 s2 s3 I J X = some q) (r : iq_R × iq_M) (hc : ∀ v, q = .inl v → iq_Gg 72 357 (23, [some (.ref 0), some (.ref 1), some (.ref 76), some (.ref 114), some (.int v.1), none, none, none], [], (iq_sh l, v.2.1, v.2.2.1, v.2.2.2)) r) (hx : ∀ w, q = .inr w → (∀ a, w = .inl a → iq_Gg 72 357 (2530, [none, none, none, none, none, none, none, none], [], (iq_sh l, a.1, a.2.1, a.2.2)) r) ∧ (∀ b, w = .inr b → r = (.inl (some (.int b.1)), (iq_sh l, b.2.1, b.2.2.1, b.2.2.2)))) : iq_Gg 72 357 (1216, [some (.ref 0), some (.ref 1), some (.ref 76), some (.ref 114), some (.int x4), some (.int x5), none, none], [.int s3, .int s2, .int s1, .ref 76], (iq_sh l, I, J, X)) r := by
  unfold zL_law_1216 at h
  obtain ⟨q49, hq49, h⟩ := iq_bnd h
  refine iq_G_call (σ' := (1219, [some (.ref 0), some (.ref 1), some (.ref 76), some (.ref 114), some (.int x4), some (.int x5), none, none], [.long q49.1], (iq_sh l, q49.2.1, q49.2.2, X))) (fun _ => rfl) (zM_ways_ok l s1 s2 s3 I J X hq49) rfl rfl ?_
  refine iq_G_go (k := 2) (σ' := (1222, [some (.ref 0), some (.ref 1), some (.ref 76), some (.ref 114), some (.int x4), some (.int x5), some (.long q49.1), none], [.ref 76], (iq_sh l, q49.2.1, q49.2.2, X))) (fun _ => rfl) ?_
  obtain ⟨q50, hq50, h⟩ := iq_bnd h
  refine iq_G_call (σ' := (1225, [some (.ref 0), some (.ref 1), some (.ref 76), some (.ref 114), some (.int x4), some (.int x5), some (.long q49.1), none], [.int q50], (iq_sh l, q49.2.1, q49.2.2, X))) (fun _ => rfl) (zM_thrown_ok l  q49.2.1 q49.2.2 X hq50) rfl rfl ?_
  refine iq_G_go (k := 1) (σ' := (1227, [some (.ref 0), some (.ref 1), some (.ref 76), some (.ref 114), some (.int x4), some (.int x5), some (.long q49.1), none], [.int x5, .int q50], (iq_sh l, q49.2.1, q49.2.2, X))) (fun _ => rfl) ?_
  rcases iq_ite h with ⟨hc_, h⟩ | ⟨hc_, h⟩
  · refine iq_G_pos (c := q50 = x5) (σ1 := (1232, [some (.ref 0), some (.ref 1), some (.ref 76), some (.ref 114), some (.int x4), some (.int x5), some (.long q49.1), none], [], (iq_sh l, q49.2.1, q49.2.2, X))) (fun _ => rfl) hc_ ?_
    refine iq_G_go (k := 1) (σ' := (1234, [some (.ref 0), some (.ref 1), some (.ref 76), some (.ref 114), some (.int x4), some (.int x5), some (.long q49.1), none], [.int x5], (iq_sh l, q49.2.1, q49.2.2, X))) (fun _ => rfl) ?_
    rcases iq_ite h with ⟨hc_, h⟩ | ⟨hc_, h⟩
    · refine iq_G_pos (c := ¬ x5 = 0) (σ1 := (1248, [some (.ref 0), some (.ref 1), some (.ref 76), some (.ref 114), some (.int x4), some (.int x5), some (.long q49.1), none], [], (iq_sh l, q49.2.1, q49.2.2, X))) (fun _ => rfl) hc_ ?_
      refine iq_G_go (k := 1) (σ' := (2524, [some (.ref 0), some (.ref 1), some (.ref 76), some (.ref 114), some (.int x4), some (.int x5), some (.long q49.1), none], [], (iq_sh l, q49.2.1, q49.2.2, X))) (fun _ => rfl) ?_
      refine iq_G_go (k := 2) (σ' := (23, [some (.ref 0), some (.ref 1), some (.ref 76), some (.ref 114), some (.int (x4 + (6 : Int32))), some (.int x5), some (.long q49.1), none], [], (iq_sh l, q49.2.1, q49.2.2, X))) (fun _ => rfl) ?_
      cases h
      exact iq_G_fg (L := [some (.ref 0), some (.ref 1), some (.ref 76), some (.ref 114), some (.int (x4 + (6 : Int32))), none, none, none]) (And.intro rfl (And.intro rfl (And.intro rfl (And.intro rfl (And.intro rfl trivial))))) (hc ((x4 + (6 : Int32)), q49.2.1, q49.2.2, X) rfl)
    · refine iq_G_neg (c := ¬ x5 = 0) (σ1 := (1237, [some (.ref 0), some (.ref 1), some (.ref 76), some (.ref 114), some (.int x4), some (.int x5), some (.long q49.1), none], [], (iq_sh l, q49.2.1, q49.2.2, X))) (fun _ => rfl) hc_ ?_
      refine iq_G_go (k := 2) (σ' := (1239, [some (.ref 0), some (.ref 1), some (.ref 76), some (.ref 114), some (.int x4), some (.int x5), some (.long q49.1), none], [.int (0 : Int32), .ref 114], (iq_sh l, q49.2.1, q49.2.2, X))) (fun _ => rfl) ?_
      refine iq_G_go (k := 1) (σ' := (1240, [some (.ref 0), some (.ref 1), some (.ref 76), some (.ref 114), some (.int x4), some (.int x5), some (.long q49.1), none], [.long (q49.2.2 114 0)], (iq_sh l, q49.2.1, q49.2.2, X))) (fun _ => rfl) ?_
      refine iq_G_go (k := 2) (σ' := (1243, [some (.ref 0), some (.ref 1), some (.ref 76), some (.ref 114), some (.int x4), some (.int x5), some (.long q49.1), none], [.int (lg_cmp (q49.2.2 114 0) q49.1)], (iq_sh l, q49.2.1, q49.2.2, X))) (fun _ => rfl) ?_
      rcases iq_ite h with ⟨hc_, h⟩ | ⟨hc_, h⟩
      · refine iq_G_pos (c := (lg_cmp (q49.2.2 114 0) q49.1) = 0) (σ1 := (1248, [some (.ref 0), some (.ref 1), some (.ref 76), some (.ref 114), some (.int x4), some (.int x5), some (.long q49.1), none], [], (iq_sh l, q49.2.1, q49.2.2, X))) (fun _ => rfl) hc_ ?_
        refine iq_G_go (k := 1) (σ' := (2524, [some (.ref 0), some (.ref 1), some (.ref 76), some (.ref 114), some (.int x4), some (.int x5), some (.long q49.1), none], [], (iq_sh l, q49.2.1, q49.2.2, X))) (fun _ => rfl) ?_
        refine iq_G_go (k := 2) (σ' := (23, [some (.ref 0), some (.ref 1), some (.ref 76), some (.ref 114), some (.int (x4 + (6 : Int32))), some (.int x5), some (.long q49.1), none], [], (iq_sh l, q49.2.1, q49.2.2, X))) (fun _ => rfl) ?_
        cases h
        exact iq_G_fg (L := [some (.ref 0), some (.ref 1), some (.ref 76), some (.ref 114), some (.int (x4 + (6 : Int32))), none, none, none]) (And.intro rfl (And.intro rfl (And.intro rfl (And.intro rfl (And.intro rfl trivial))))) (hc ((x4 + (6 : Int32)), q49.2.1, q49.2.2, X) rfl)
      · refine iq_G_neg (c := (lg_cmp (q49.2.2 114 0) q49.1) = 0) (σ1 := (1246, [some (.ref 0), some (.ref 1), some (.ref 76), some (.ref 114), some (.int x4), some (.int x5), some (.long q49.1), none], [], (iq_sh l, q49.2.1, q49.2.2, X))) (fun _ => rfl) hc_ ?_
        refine iq_G_go (k := 1) (σ' := (1247, [some (.ref 0), some (.ref 1), some (.ref 76), some (.ref 114), some (.int x4), some (.int x5), some (.long q49.1), none], [.int (0 : Int32)], (iq_sh l, q49.2.1, q49.2.2, X))) (fun _ => rfl) ?_
        cases h
        obtain rfl := (hx _ rfl).2 _ rfl
        exact iq_G_ret (fun _ => rfl)
  · refine iq_G_neg (c := q50 = x5) (σ1 := (1230, [some (.ref 0), some (.ref 1), some (.ref 76), some (.ref 114), some (.int x4), some (.int x5), some (.long q49.1), none], [], (iq_sh l, q49.2.1, q49.2.2, X))) (fun _ => rfl) hc_ ?_
    refine iq_G_go (k := 1) (σ' := (1231, [some (.ref 0), some (.ref 1), some (.ref 76), some (.ref 114), some (.int x4), some (.int x5), some (.long q49.1), none], [.int (0 : Int32)], (iq_sh l, q49.2.1, q49.2.2, X))) (fun _ => rfl) ?_
    cases h
    obtain rfl := (hx _ rfl).2 _ rfl
    exact iq_G_ret (fun _ => rfl)
set_option maxRecDepth 100000 in
theorem zL_law_1183_ok (l : Nat)  (x4 : Int32) (s1 : Int32) (s2 : Int32) (s3 : Int32) (I : iq_I) (J : iq_J) (X : iq_X)  {q : (Int32 × iq_I × iq_J × iq_X) ⊕ ((iq_I × iq_J × iq_X) ⊕ (Int32 × iq_I × iq_J × iq_X))} (h : zL_law_1183 l x4 s1 s2 s3 I J X = some q) (r : iq_R × iq_M) (hc : ∀ v, q = .inl v → iq_Gg 72 357 (23, [some (.ref 0), some (.ref 1), some (.ref 76), some (.ref 114), some (.int v.1), none, none, none], [], (iq_sh l, v.2.1, v.2.2.1, v.2.2.2)) r) (hx : ∀ w, q = .inr w → (∀ a, w = .inl a → iq_Gg 72 357 (2530, [none, none, none, none, none, none, none, none], [], (iq_sh l, a.1, a.2.1, a.2.2)) r) ∧ (∀ b, w = .inr b → r = (.inl (some (.int b.1)), (iq_sh l, b.2.1, b.2.2.1, b.2.2.2)))) : iq_Gg 72 357 (1183, [some (.ref 0), some (.ref 1), some (.ref 76), some (.ref 114), some (.int x4), none, none, none], [.int s3, .int s2, .int s1, .ref 1], (iq_sh l, I, J, X)) r := by
  unfold zL_law_1183 at h
  refine iq_G_go (k := 1) (σ' := (1184, [some (.ref 0), some (.ref 1), some (.ref 76), some (.ref 114), some (.int x4), none, none, none], [.ref 114, .int s3, .int s2, .int s1, .ref 1], (iq_sh l, I, J, X))) (fun _ => rfl) ?_
  obtain ⟨q48, hq48, h⟩ := iq_bnd h
  refine iq_G_call (σ' := (1187, [some (.ref 0), some (.ref 1), some (.ref 76), some (.ref 114), some (.int x4), none, none, none], [.int q48.1], (iq_sh l, I, q48.2.1, q48.2.2))) (fun _ => rfl) (zL_ways_ok l s1 s2 s3 I J X hq48) rfl rfl ?_
  refine iq_G_go (k := 6) (σ' := (1195, [some (.ref 0), some (.ref 1), some (.ref 76), some (.ref 114), some (.int x4), some (.int q48.1), none, none], [.int (x4 + (1 : Int32)), .ref 0, .ref 76], (iq_sh l, I, q48.2.1, q48.2.2))) (fun _ => rfl) ?_
  obtain ⟨hc_, h⟩ := iq_itn h
  refine iq_G_pos (c := iq_in (x4 + (1 : Int32)) l) (σ1 := (1196, [some (.ref 0), some (.ref 1), some (.ref 76), some (.ref 114), some (.int x4), some (.int q48.1), none, none], [.int (I 0 (Int32.toNatClampNeg (x4 + (1 : Int32)))), .ref 76], (iq_sh l, I, q48.2.1, q48.2.2))) (fun _ => rfl) hc_ ?_
  refine iq_G_go (k := 4) (σ' := (1201, [some (.ref 0), some (.ref 1), some (.ref 76), some (.ref 114), some (.int x4), some (.int q48.1), none, none], [.int (x4 + (2 : Int32)), .ref 0, .int (I 0 (Int32.toNatClampNeg (x4 + (1 : Int32)))), .ref 76], (iq_sh l, I, q48.2.1, q48.2.2))) (fun _ => rfl) ?_
  obtain ⟨hc_, h⟩ := iq_itn h
  refine iq_G_pos (c := iq_in (x4 + (2 : Int32)) l) (σ1 := (1202, [some (.ref 0), some (.ref 1), some (.ref 76), some (.ref 114), some (.int x4), some (.int q48.1), none, none], [.int (I 0 (Int32.toNatClampNeg (x4 + (2 : Int32)))), .int (I 0 (Int32.toNatClampNeg (x4 + (1 : Int32)))), .ref 76], (iq_sh l, I, q48.2.1, q48.2.2))) (fun _ => rfl) hc_ ?_
  refine iq_G_go (k := 4) (σ' := (1207, [some (.ref 0), some (.ref 1), some (.ref 76), some (.ref 114), some (.int x4), some (.int q48.1), none, none], [.int (x4 + (3 : Int32)), .ref 0, .int (I 0 (Int32.toNatClampNeg (x4 + (2 : Int32)))), .int (I 0 (Int32.toNatClampNeg (x4 + (1 : Int32)))), .ref 76], (iq_sh l, I, q48.2.1, q48.2.2))) (fun _ => rfl) ?_
  obtain ⟨hc_, h⟩ := iq_itn h
  refine iq_G_pos (c := iq_in (x4 + (3 : Int32)) l) (σ1 := (1208, [some (.ref 0), some (.ref 1), some (.ref 76), some (.ref 114), some (.int x4), some (.int q48.1), none, none], [.int (I 0 (Int32.toNatClampNeg (x4 + (3 : Int32)))), .int (I 0 (Int32.toNatClampNeg (x4 + (2 : Int32)))), .int (I 0 (Int32.toNatClampNeg (x4 + (1 : Int32)))), .ref 76], (iq_sh l, I, q48.2.1, q48.2.2))) (fun _ => rfl) hc_ ?_
  rcases iq_ite h with ⟨hc_, h⟩ | ⟨hc_, h⟩
  · refine iq_G_pos (c := (I 0 (Int32.toNatClampNeg (x4 + (3 : Int32)))) = 0) (σ1 := (1215, [some (.ref 0), some (.ref 1), some (.ref 76), some (.ref 114), some (.int x4), some (.int q48.1), none, none], [.int (I 0 (Int32.toNatClampNeg (x4 + (2 : Int32)))), .int (I 0 (Int32.toNatClampNeg (x4 + (1 : Int32)))), .ref 76], (iq_sh l, I, q48.2.1, q48.2.2))) (fun _ => rfl) hc_ ?_
    refine iq_G_go (k := 1) (σ' := (1216, [some (.ref 0), some (.ref 1), some (.ref 76), some (.ref 114), some (.int x4), some (.int q48.1), none, none], [.int (0 : Int32), .int (I 0 (Int32.toNatClampNeg (x4 + (2 : Int32)))), .int (I 0 (Int32.toNatClampNeg (x4 + (1 : Int32)))), .ref 76], (iq_sh l, I, q48.2.1, q48.2.2))) (fun _ => rfl) ?_
    exact iq_G_fg (L := [some (.ref 0), some (.ref 1), some (.ref 76), some (.ref 114), some (.int x4), some (.int q48.1), none, none]) (And.intro rfl (And.intro rfl (And.intro rfl (And.intro rfl (And.intro rfl (And.intro rfl trivial)))))) (zL_law_1216_ok l x4 q48.1 (I 0 (Int32.toNatClampNeg (x4 + (1 : Int32)))) (I 0 (Int32.toNatClampNeg (x4 + (2 : Int32)))) (0 : Int32) I q48.2.1 q48.2.2  h r hc hx)
  · refine iq_G_neg (c := (I 0 (Int32.toNatClampNeg (x4 + (3 : Int32)))) = 0) (σ1 := (1211, [some (.ref 0), some (.ref 1), some (.ref 76), some (.ref 114), some (.int x4), some (.int q48.1), none, none], [.int (I 0 (Int32.toNatClampNeg (x4 + (2 : Int32)))), .int (I 0 (Int32.toNatClampNeg (x4 + (1 : Int32)))), .ref 76], (iq_sh l, I, q48.2.1, q48.2.2))) (fun _ => rfl) hc_ ?_
    refine iq_G_go (k := 2) (σ' := (1216, [some (.ref 0), some (.ref 1), some (.ref 76), some (.ref 114), some (.int x4), some (.int q48.1), none, none], [.int (1 : Int32), .int (I 0 (Int32.toNatClampNeg (x4 + (2 : Int32)))), .int (I 0 (Int32.toNatClampNeg (x4 + (1 : Int32)))), .ref 76], (iq_sh l, I, q48.2.1, q48.2.2))) (fun _ => rfl) ?_
    exact iq_G_fg (L := [some (.ref 0), some (.ref 1), some (.ref 76), some (.ref 114), some (.int x4), some (.int q48.1), none, none]) (And.intro rfl (And.intro rfl (And.intro rfl (And.intro rfl (And.intro rfl (And.intro rfl trivial)))))) (zL_law_1216_ok l x4 q48.1 (I 0 (Int32.toNatClampNeg (x4 + (1 : Int32)))) (I 0 (Int32.toNatClampNeg (x4 + (2 : Int32)))) (1 : Int32) I q48.2.1 q48.2.2  h r hc hx)
set_option maxRecDepth 100000 in
theorem zL_law_1156_ok (l : Nat)  (x4 : Int32) (I : iq_I) (J : iq_J) (X : iq_X)  {q : (Int32 × iq_I × iq_J × iq_X) ⊕ ((iq_I × iq_J × iq_X) ⊕ (Int32 × iq_I × iq_J × iq_X))} (h : zL_law_1156 l x4 I J X = some q) (r : iq_R × iq_M) (hc : ∀ v, q = .inl v → iq_Gg 72 357 (23, [some (.ref 0), some (.ref 1), some (.ref 76), some (.ref 114), some (.int v.1), none, none, none], [], (iq_sh l, v.2.1, v.2.2.1, v.2.2.2)) r) (hx : ∀ w, q = .inr w → (∀ a, w = .inl a → iq_Gg 72 357 (2530, [none, none, none, none, none, none, none, none], [], (iq_sh l, a.1, a.2.1, a.2.2)) r) ∧ (∀ b, w = .inr b → r = (.inl (some (.int b.1)), (iq_sh l, b.2.1, b.2.2.1, b.2.2.2)))) : iq_Gg 72 357 (1156, [some (.ref 0), some (.ref 1), some (.ref 76), some (.ref 114), some (.int x4), none, none, none], [], (iq_sh l, I, J, X)) r := by
  unfold zL_law_1156 at h
  refine iq_G_go (k := 5) (σ' := (1162, [some (.ref 0), some (.ref 1), some (.ref 76), some (.ref 114), some (.int x4), none, none, none], [.int (x4 + (1 : Int32)), .ref 0, .ref 1], (iq_sh l, I, J, X))) (fun _ => rfl) ?_
  obtain ⟨hc_, h⟩ := iq_itn h
  refine iq_G_pos (c := iq_in (x4 + (1 : Int32)) l) (σ1 := (1163, [some (.ref 0), some (.ref 1), some (.ref 76), some (.ref 114), some (.int x4), none, none, none], [.int (I 0 (Int32.toNatClampNeg (x4 + (1 : Int32)))), .ref 1], (iq_sh l, I, J, X))) (fun _ => rfl) hc_ ?_
  refine iq_G_go (k := 4) (σ' := (1168, [some (.ref 0), some (.ref 1), some (.ref 76), some (.ref 114), some (.int x4), none, none, none], [.int (x4 + (2 : Int32)), .ref 0, .int (I 0 (Int32.toNatClampNeg (x4 + (1 : Int32)))), .ref 1], (iq_sh l, I, J, X))) (fun _ => rfl) ?_
  obtain ⟨hc_, h⟩ := iq_itn h
  refine iq_G_pos (c := iq_in (x4 + (2 : Int32)) l) (σ1 := (1169, [some (.ref 0), some (.ref 1), some (.ref 76), some (.ref 114), some (.int x4), none, none, none], [.int (I 0 (Int32.toNatClampNeg (x4 + (2 : Int32)))), .int (I 0 (Int32.toNatClampNeg (x4 + (1 : Int32)))), .ref 1], (iq_sh l, I, J, X))) (fun _ => rfl) hc_ ?_
  refine iq_G_go (k := 4) (σ' := (1174, [some (.ref 0), some (.ref 1), some (.ref 76), some (.ref 114), some (.int x4), none, none, none], [.int (x4 + (3 : Int32)), .ref 0, .int (I 0 (Int32.toNatClampNeg (x4 + (2 : Int32)))), .int (I 0 (Int32.toNatClampNeg (x4 + (1 : Int32)))), .ref 1], (iq_sh l, I, J, X))) (fun _ => rfl) ?_
  obtain ⟨hc_, h⟩ := iq_itn h
  refine iq_G_pos (c := iq_in (x4 + (3 : Int32)) l) (σ1 := (1175, [some (.ref 0), some (.ref 1), some (.ref 76), some (.ref 114), some (.int x4), none, none, none], [.int (I 0 (Int32.toNatClampNeg (x4 + (3 : Int32)))), .int (I 0 (Int32.toNatClampNeg (x4 + (2 : Int32)))), .int (I 0 (Int32.toNatClampNeg (x4 + (1 : Int32)))), .ref 1], (iq_sh l, I, J, X))) (fun _ => rfl) hc_ ?_
  rcases iq_ite h with ⟨hc_, h⟩ | ⟨hc_, h⟩
  · refine iq_G_pos (c := (I 0 (Int32.toNatClampNeg (x4 + (3 : Int32)))) = 0) (σ1 := (1182, [some (.ref 0), some (.ref 1), some (.ref 76), some (.ref 114), some (.int x4), none, none, none], [.int (I 0 (Int32.toNatClampNeg (x4 + (2 : Int32)))), .int (I 0 (Int32.toNatClampNeg (x4 + (1 : Int32)))), .ref 1], (iq_sh l, I, J, X))) (fun _ => rfl) hc_ ?_
    refine iq_G_go (k := 1) (σ' := (1183, [some (.ref 0), some (.ref 1), some (.ref 76), some (.ref 114), some (.int x4), none, none, none], [.int (0 : Int32), .int (I 0 (Int32.toNatClampNeg (x4 + (2 : Int32)))), .int (I 0 (Int32.toNatClampNeg (x4 + (1 : Int32)))), .ref 1], (iq_sh l, I, J, X))) (fun _ => rfl) ?_
    exact iq_G_fg (L := [some (.ref 0), some (.ref 1), some (.ref 76), some (.ref 114), some (.int x4), none, none, none]) (And.intro rfl (And.intro rfl (And.intro rfl (And.intro rfl (And.intro rfl trivial))))) (zL_law_1183_ok l x4 (I 0 (Int32.toNatClampNeg (x4 + (1 : Int32)))) (I 0 (Int32.toNatClampNeg (x4 + (2 : Int32)))) (0 : Int32) I J X  h r hc hx)
  · refine iq_G_neg (c := (I 0 (Int32.toNatClampNeg (x4 + (3 : Int32)))) = 0) (σ1 := (1178, [some (.ref 0), some (.ref 1), some (.ref 76), some (.ref 114), some (.int x4), none, none, none], [.int (I 0 (Int32.toNatClampNeg (x4 + (2 : Int32)))), .int (I 0 (Int32.toNatClampNeg (x4 + (1 : Int32)))), .ref 1], (iq_sh l, I, J, X))) (fun _ => rfl) hc_ ?_
    refine iq_G_go (k := 2) (σ' := (1183, [some (.ref 0), some (.ref 1), some (.ref 76), some (.ref 114), some (.int x4), none, none, none], [.int (1 : Int32), .int (I 0 (Int32.toNatClampNeg (x4 + (2 : Int32)))), .int (I 0 (Int32.toNatClampNeg (x4 + (1 : Int32)))), .ref 1], (iq_sh l, I, J, X))) (fun _ => rfl) ?_
    exact iq_G_fg (L := [some (.ref 0), some (.ref 1), some (.ref 76), some (.ref 114), some (.int x4), none, none, none]) (And.intro rfl (And.intro rfl (And.intro rfl (And.intro rfl (And.intro rfl trivial))))) (zL_law_1183_ok l x4 (I 0 (Int32.toNatClampNeg (x4 + (1 : Int32)))) (I 0 (Int32.toNatClampNeg (x4 + (2 : Int32)))) (1 : Int32) I J X  h r hc hx)
set_option maxRecDepth 100000 in
theorem zL_law_1251_ok (l : Nat)  (x4 : Int32) (I : iq_I) (J : iq_J) (X : iq_X)  {q : (Int32 × iq_I × iq_J × iq_X) ⊕ ((iq_I × iq_J × iq_X) ⊕ (Int32 × iq_I × iq_J × iq_X))} (h : zL_law_1251 l x4 I J X = some q) (r : iq_R × iq_M) (hc : ∀ v, q = .inl v → iq_Gg 72 357 (23, [some (.ref 0), some (.ref 1), some (.ref 76), some (.ref 114), some (.int v.1), none, none, none], [], (iq_sh l, v.2.1, v.2.2.1, v.2.2.2)) r) (hx : ∀ w, q = .inr w → (∀ a, w = .inl a → iq_Gg 72 357 (2530, [none, none, none, none, none, none, none, none], [], (iq_sh l, a.1, a.2.1, a.2.2)) r) ∧ (∀ b, w = .inr b → r = (.inl (some (.int b.1)), (iq_sh l, b.2.1, b.2.2.1, b.2.2.2)))) : iq_Gg 72 357 (1251, [some (.ref 0), some (.ref 1), some (.ref 76), some (.ref 114), some (.int x4), none, none, none], [], (iq_sh l, I, J, X)) r := by
  unfold zL_law_1251 at h
  refine iq_G_go (k := 5) (σ' := (1257, [some (.ref 0), some (.ref 1), some (.ref 76), some (.ref 114), some (.int x4), none, none, none], [.int (x4 + (1 : Int32)), .ref 0, .ref 1], (iq_sh l, I, J, X))) (fun _ => rfl) ?_
  obtain ⟨hc_, h⟩ := iq_itn h
  refine iq_G_pos (c := iq_in (x4 + (1 : Int32)) l) (σ1 := (1258, [some (.ref 0), some (.ref 1), some (.ref 76), some (.ref 114), some (.int x4), none, none, none], [.int (I 0 (Int32.toNatClampNeg (x4 + (1 : Int32)))), .ref 1], (iq_sh l, I, J, X))) (fun _ => rfl) hc_ ?_
  refine iq_G_go (k := 4) (σ' := (1263, [some (.ref 0), some (.ref 1), some (.ref 76), some (.ref 114), some (.int x4), none, none, none], [.int (x4 + (2 : Int32)), .ref 0, .int (I 0 (Int32.toNatClampNeg (x4 + (1 : Int32)))), .ref 1], (iq_sh l, I, J, X))) (fun _ => rfl) ?_
  obtain ⟨hc_, h⟩ := iq_itn h
  refine iq_G_pos (c := iq_in (x4 + (2 : Int32)) l) (σ1 := (1264, [some (.ref 0), some (.ref 1), some (.ref 76), some (.ref 114), some (.int x4), none, none, none], [.int (I 0 (Int32.toNatClampNeg (x4 + (2 : Int32)))), .int (I 0 (Int32.toNatClampNeg (x4 + (1 : Int32)))), .ref 1], (iq_sh l, I, J, X))) (fun _ => rfl) hc_ ?_
  refine iq_G_go (k := 1) (σ' := (1265, [some (.ref 0), some (.ref 1), some (.ref 76), some (.ref 114), some (.int x4), none, none, none], [.ref 114, .int (I 0 (Int32.toNatClampNeg (x4 + (2 : Int32)))), .int (I 0 (Int32.toNatClampNeg (x4 + (1 : Int32)))), .ref 1], (iq_sh l, I, J, X))) (fun _ => rfl) ?_
  obtain ⟨q51, hq51, h⟩ := iq_bnd h
  refine iq_G_call (σ' := (1268, [some (.ref 0), some (.ref 1), some (.ref 76), some (.ref 114), some (.int x4), none, none, none], [.int q51.1], (iq_sh l, q51.2.1, q51.2.2.1, q51.2.2.2))) (fun _ => rfl) (zL_turn_ok l (I 0 (Int32.toNatClampNeg (x4 + (1 : Int32)))) (I 0 (Int32.toNatClampNeg (x4 + (2 : Int32)))) I J X hq51) rfl rfl ?_
  refine iq_G_go (k := 6) (σ' := (1276, [some (.ref 0), some (.ref 1), some (.ref 76), some (.ref 114), some (.int x4), some (.int q51.1), none, none], [.int (x4 + (1 : Int32)), .ref 0, .ref 76], (iq_sh l, q51.2.1, q51.2.2.1, q51.2.2.2))) (fun _ => rfl) ?_
  obtain ⟨hc_, h⟩ := iq_itn h
  refine iq_G_pos (c := iq_in (x4 + (1 : Int32)) l) (σ1 := (1277, [some (.ref 0), some (.ref 1), some (.ref 76), some (.ref 114), some (.int x4), some (.int q51.1), none, none], [.int (q51.2.1 0 (Int32.toNatClampNeg (x4 + (1 : Int32)))), .ref 76], (iq_sh l, q51.2.1, q51.2.2.1, q51.2.2.2))) (fun _ => rfl) hc_ ?_
  refine iq_G_go (k := 4) (σ' := (1282, [some (.ref 0), some (.ref 1), some (.ref 76), some (.ref 114), some (.int x4), some (.int q51.1), none, none], [.int (x4 + (2 : Int32)), .ref 0, .int (q51.2.1 0 (Int32.toNatClampNeg (x4 + (1 : Int32)))), .ref 76], (iq_sh l, q51.2.1, q51.2.2.1, q51.2.2.2))) (fun _ => rfl) ?_
  obtain ⟨hc_, h⟩ := iq_itn h
  refine iq_G_pos (c := iq_in (x4 + (2 : Int32)) l) (σ1 := (1283, [some (.ref 0), some (.ref 1), some (.ref 76), some (.ref 114), some (.int x4), some (.int q51.1), none, none], [.int (q51.2.1 0 (Int32.toNatClampNeg (x4 + (2 : Int32)))), .int (q51.2.1 0 (Int32.toNatClampNeg (x4 + (1 : Int32)))), .ref 76], (iq_sh l, q51.2.1, q51.2.2.1, q51.2.2.2))) (fun _ => rfl) hc_ ?_
  obtain ⟨q52, hq52, h⟩ := iq_bnd h
  refine iq_G_call (σ' := (1286, [some (.ref 0), some (.ref 1), some (.ref 76), some (.ref 114), some (.int x4), some (.int q51.1), none, none], [.int q52.1], (iq_sh l, q52.2, q51.2.2.1, q51.2.2.2))) (fun _ => rfl) (zM_turn_ok l (q51.2.1 0 (Int32.toNatClampNeg (x4 + (1 : Int32)))) (q51.2.1 0 (Int32.toNatClampNeg (x4 + (2 : Int32)))) q51.2.1 q51.2.2.1 q51.2.2.2 hq52) rfl rfl ?_
  refine iq_G_go (k := 2) (σ' := (1289, [some (.ref 0), some (.ref 1), some (.ref 76), some (.ref 114), some (.int x4), some (.int q51.1), some (.int q52.1), none], [.ref 76], (iq_sh l, q52.2, q51.2.2.1, q51.2.2.2))) (fun _ => rfl) ?_
  obtain ⟨q53, hq53, h⟩ := iq_bnd h
  refine iq_G_call (σ' := (1292, [some (.ref 0), some (.ref 1), some (.ref 76), some (.ref 114), some (.int x4), some (.int q51.1), some (.int q52.1), none], [.int q53], (iq_sh l, q52.2, q51.2.2.1, q51.2.2.2))) (fun _ => rfl) (zM_thrown_ok l  q52.2 q51.2.2.1 q51.2.2.2 hq53) rfl rfl ?_
  refine iq_G_go (k := 1) (σ' := (1294, [some (.ref 0), some (.ref 1), some (.ref 76), some (.ref 114), some (.int x4), some (.int q51.1), some (.int q52.1), none], [.int q51.1, .int q53], (iq_sh l, q52.2, q51.2.2.1, q51.2.2.2))) (fun _ => rfl) ?_
  rcases iq_ite h with ⟨hc_, h⟩ | ⟨hc_, h⟩
  · refine iq_G_pos (c := q53 = q51.1) (σ1 := (1299, [some (.ref 0), some (.ref 1), some (.ref 76), some (.ref 114), some (.int x4), some (.int q51.1), some (.int q52.1), none], [], (iq_sh l, q52.2, q51.2.2.1, q51.2.2.2))) (fun _ => rfl) hc_ ?_
    refine iq_G_go (k := 1) (σ' := (1301, [some (.ref 0), some (.ref 1), some (.ref 76), some (.ref 114), some (.int x4), some (.int q51.1), some (.int q52.1), none], [.int q51.1], (iq_sh l, q52.2, q51.2.2.1, q51.2.2.2))) (fun _ => rfl) ?_
    rcases iq_ite h with ⟨hc_, h⟩ | ⟨hc_, h⟩
    · refine iq_G_pos (c := ¬ q51.1 = 0) (σ1 := (1316, [some (.ref 0), some (.ref 1), some (.ref 76), some (.ref 114), some (.int x4), some (.int q51.1), some (.int q52.1), none], [], (iq_sh l, q52.2, q51.2.2.1, q51.2.2.2))) (fun _ => rfl) hc_ ?_
      refine iq_G_go (k := 1) (σ' := (2524, [some (.ref 0), some (.ref 1), some (.ref 76), some (.ref 114), some (.int x4), some (.int q51.1), some (.int q52.1), none], [], (iq_sh l, q52.2, q51.2.2.1, q51.2.2.2))) (fun _ => rfl) ?_
      refine iq_G_go (k := 2) (σ' := (23, [some (.ref 0), some (.ref 1), some (.ref 76), some (.ref 114), some (.int (x4 + (6 : Int32))), some (.int q51.1), some (.int q52.1), none], [], (iq_sh l, q52.2, q51.2.2.1, q51.2.2.2))) (fun _ => rfl) ?_
      cases h
      exact iq_G_fg (L := [some (.ref 0), some (.ref 1), some (.ref 76), some (.ref 114), some (.int (x4 + (6 : Int32))), none, none, none]) (And.intro rfl (And.intro rfl (And.intro rfl (And.intro rfl (And.intro rfl trivial))))) (hc ((x4 + (6 : Int32)), q52.2, q51.2.2.1, q51.2.2.2) rfl)
    · refine iq_G_neg (c := ¬ q51.1 = 0) (σ1 := (1304, [some (.ref 0), some (.ref 1), some (.ref 76), some (.ref 114), some (.int x4), some (.int q51.1), some (.int q52.1), none], [], (iq_sh l, q52.2, q51.2.2.1, q51.2.2.2))) (fun _ => rfl) hc_ ?_
      refine iq_G_go (k := 2) (σ' := (1306, [some (.ref 0), some (.ref 1), some (.ref 76), some (.ref 114), some (.int x4), some (.int q51.1), some (.int q52.1), none], [.int (0 : Int32), .ref 114], (iq_sh l, q52.2, q51.2.2.1, q51.2.2.2))) (fun _ => rfl) ?_
      refine iq_G_go (k := 1) (σ' := (1307, [some (.ref 0), some (.ref 1), some (.ref 76), some (.ref 114), some (.int x4), some (.int q51.1), some (.int q52.1), none], [.long (q51.2.2.1 114 0)], (iq_sh l, q52.2, q51.2.2.1, q51.2.2.2))) (fun _ => rfl) ?_
      refine iq_G_go (k := 3) (σ' := (1311, [some (.ref 0), some (.ref 1), some (.ref 76), some (.ref 114), some (.int x4), some (.int q51.1), some (.int q52.1), none], [.int (lg_cmp (q51.2.2.1 114 0) (Int32.toInt64 q52.1))], (iq_sh l, q52.2, q51.2.2.1, q51.2.2.2))) (fun _ => rfl) ?_
      rcases iq_ite h with ⟨hc_, h⟩ | ⟨hc_, h⟩
      · refine iq_G_pos (c := (lg_cmp (q51.2.2.1 114 0) (Int32.toInt64 q52.1)) = 0) (σ1 := (1316, [some (.ref 0), some (.ref 1), some (.ref 76), some (.ref 114), some (.int x4), some (.int q51.1), some (.int q52.1), none], [], (iq_sh l, q52.2, q51.2.2.1, q51.2.2.2))) (fun _ => rfl) hc_ ?_
        refine iq_G_go (k := 1) (σ' := (2524, [some (.ref 0), some (.ref 1), some (.ref 76), some (.ref 114), some (.int x4), some (.int q51.1), some (.int q52.1), none], [], (iq_sh l, q52.2, q51.2.2.1, q51.2.2.2))) (fun _ => rfl) ?_
        refine iq_G_go (k := 2) (σ' := (23, [some (.ref 0), some (.ref 1), some (.ref 76), some (.ref 114), some (.int (x4 + (6 : Int32))), some (.int q51.1), some (.int q52.1), none], [], (iq_sh l, q52.2, q51.2.2.1, q51.2.2.2))) (fun _ => rfl) ?_
        cases h
        exact iq_G_fg (L := [some (.ref 0), some (.ref 1), some (.ref 76), some (.ref 114), some (.int (x4 + (6 : Int32))), none, none, none]) (And.intro rfl (And.intro rfl (And.intro rfl (And.intro rfl (And.intro rfl trivial))))) (hc ((x4 + (6 : Int32)), q52.2, q51.2.2.1, q51.2.2.2) rfl)
      · refine iq_G_neg (c := (lg_cmp (q51.2.2.1 114 0) (Int32.toInt64 q52.1)) = 0) (σ1 := (1314, [some (.ref 0), some (.ref 1), some (.ref 76), some (.ref 114), some (.int x4), some (.int q51.1), some (.int q52.1), none], [], (iq_sh l, q52.2, q51.2.2.1, q51.2.2.2))) (fun _ => rfl) hc_ ?_
        refine iq_G_go (k := 1) (σ' := (1315, [some (.ref 0), some (.ref 1), some (.ref 76), some (.ref 114), some (.int x4), some (.int q51.1), some (.int q52.1), none], [.int (0 : Int32)], (iq_sh l, q52.2, q51.2.2.1, q51.2.2.2))) (fun _ => rfl) ?_
        cases h
        obtain rfl := (hx _ rfl).2 _ rfl
        exact iq_G_ret (fun _ => rfl)
  · refine iq_G_neg (c := q53 = q51.1) (σ1 := (1297, [some (.ref 0), some (.ref 1), some (.ref 76), some (.ref 114), some (.int x4), some (.int q51.1), some (.int q52.1), none], [], (iq_sh l, q52.2, q51.2.2.1, q51.2.2.2))) (fun _ => rfl) hc_ ?_
    refine iq_G_go (k := 1) (σ' := (1298, [some (.ref 0), some (.ref 1), some (.ref 76), some (.ref 114), some (.int x4), some (.int q51.1), some (.int q52.1), none], [.int (0 : Int32)], (iq_sh l, q52.2, q51.2.2.1, q51.2.2.2))) (fun _ => rfl) ?_
    cases h
    obtain rfl := (hx _ rfl).2 _ rfl
    exact iq_G_ret (fun _ => rfl)
set_option maxRecDepth 100000 in
theorem zL_law_1319_ok (l : Nat)  (x4 : Int32) (I : iq_I) (J : iq_J) (X : iq_X)  {q : (Int32 × iq_I × iq_J × iq_X) ⊕ ((iq_I × iq_J × iq_X) ⊕ (Int32 × iq_I × iq_J × iq_X))} (h : zL_law_1319 l x4 I J X = some q) (r : iq_R × iq_M) (hc : ∀ v, q = .inl v → iq_Gg 72 357 (23, [some (.ref 0), some (.ref 1), some (.ref 76), some (.ref 114), some (.int v.1), none, none, none], [], (iq_sh l, v.2.1, v.2.2.1, v.2.2.2)) r) (hx : ∀ w, q = .inr w → (∀ a, w = .inl a → iq_Gg 72 357 (2530, [none, none, none, none, none, none, none, none], [], (iq_sh l, a.1, a.2.1, a.2.2)) r) ∧ (∀ b, w = .inr b → r = (.inl (some (.int b.1)), (iq_sh l, b.2.1, b.2.2.1, b.2.2.2)))) : iq_Gg 72 357 (1319, [some (.ref 0), some (.ref 1), some (.ref 76), some (.ref 114), some (.int x4), none, none, none], [], (iq_sh l, I, J, X)) r := by
  unfold zL_law_1319 at h
  refine iq_G_go (k := 5) (σ' := (1325, [some (.ref 0), some (.ref 1), some (.ref 76), some (.ref 114), some (.int x4), none, none, none], [.int (x4 + (1 : Int32)), .ref 0, .ref 1], (iq_sh l, I, J, X))) (fun _ => rfl) ?_
  obtain ⟨hc_, h⟩ := iq_itn h
  refine iq_G_pos (c := iq_in (x4 + (1 : Int32)) l) (σ1 := (1326, [some (.ref 0), some (.ref 1), some (.ref 76), some (.ref 114), some (.int x4), none, none, none], [.int (I 0 (Int32.toNatClampNeg (x4 + (1 : Int32)))), .ref 1], (iq_sh l, I, J, X))) (fun _ => rfl) hc_ ?_
  refine iq_G_go (k := 4) (σ' := (1331, [some (.ref 0), some (.ref 1), some (.ref 76), some (.ref 114), some (.int x4), none, none, none], [.int (x4 + (2 : Int32)), .ref 0, .int (I 0 (Int32.toNatClampNeg (x4 + (1 : Int32)))), .ref 1], (iq_sh l, I, J, X))) (fun _ => rfl) ?_
  obtain ⟨hc_, h⟩ := iq_itn h
  refine iq_G_pos (c := iq_in (x4 + (2 : Int32)) l) (σ1 := (1332, [some (.ref 0), some (.ref 1), some (.ref 76), some (.ref 114), some (.int x4), none, none, none], [.int (I 0 (Int32.toNatClampNeg (x4 + (2 : Int32)))), .int (I 0 (Int32.toNatClampNeg (x4 + (1 : Int32)))), .ref 1], (iq_sh l, I, J, X))) (fun _ => rfl) hc_ ?_
  refine iq_G_go (k := 4) (σ' := (1337, [some (.ref 0), some (.ref 1), some (.ref 76), some (.ref 114), some (.int x4), none, none, none], [.int (x4 + (3 : Int32)), .ref 0, .int (I 0 (Int32.toNatClampNeg (x4 + (2 : Int32)))), .int (I 0 (Int32.toNatClampNeg (x4 + (1 : Int32)))), .ref 1], (iq_sh l, I, J, X))) (fun _ => rfl) ?_
  obtain ⟨hc_, h⟩ := iq_itn h
  refine iq_G_pos (c := iq_in (x4 + (3 : Int32)) l) (σ1 := (1338, [some (.ref 0), some (.ref 1), some (.ref 76), some (.ref 114), some (.int x4), none, none, none], [.int (I 0 (Int32.toNatClampNeg (x4 + (3 : Int32)))), .int (I 0 (Int32.toNatClampNeg (x4 + (2 : Int32)))), .int (I 0 (Int32.toNatClampNeg (x4 + (1 : Int32)))), .ref 1], (iq_sh l, I, J, X))) (fun _ => rfl) hc_ ?_
  refine iq_G_go (k := 1) (σ' := (1339, [some (.ref 0), some (.ref 1), some (.ref 76), some (.ref 114), some (.int x4), none, none, none], [.ref 114, .int (I 0 (Int32.toNatClampNeg (x4 + (3 : Int32)))), .int (I 0 (Int32.toNatClampNeg (x4 + (2 : Int32)))), .int (I 0 (Int32.toNatClampNeg (x4 + (1 : Int32)))), .ref 1], (iq_sh l, I, J, X))) (fun _ => rfl) ?_
  obtain ⟨q54, hq54, h⟩ := iq_bnd h
  refine iq_G_call (σ' := (1342, [some (.ref 0), some (.ref 1), some (.ref 76), some (.ref 114), some (.int x4), none, none, none], [.int q54.1], (iq_sh l, q54.2.1, q54.2.2.1, q54.2.2.2))) (fun _ => rfl) (zL_costs_ok l (I 0 (Int32.toNatClampNeg (x4 + (1 : Int32)))) (I 0 (Int32.toNatClampNeg (x4 + (2 : Int32)))) (I 0 (Int32.toNatClampNeg (x4 + (3 : Int32)))) I J X hq54) rfl rfl ?_
  refine iq_G_go (k := 6) (σ' := (1350, [some (.ref 0), some (.ref 1), some (.ref 76), some (.ref 114), some (.int x4), some (.int q54.1), none, none], [.int (x4 + (1 : Int32)), .ref 0, .ref 76], (iq_sh l, q54.2.1, q54.2.2.1, q54.2.2.2))) (fun _ => rfl) ?_
  obtain ⟨hc_, h⟩ := iq_itn h
  refine iq_G_pos (c := iq_in (x4 + (1 : Int32)) l) (σ1 := (1351, [some (.ref 0), some (.ref 1), some (.ref 76), some (.ref 114), some (.int x4), some (.int q54.1), none, none], [.int (q54.2.1 0 (Int32.toNatClampNeg (x4 + (1 : Int32)))), .ref 76], (iq_sh l, q54.2.1, q54.2.2.1, q54.2.2.2))) (fun _ => rfl) hc_ ?_
  refine iq_G_go (k := 4) (σ' := (1356, [some (.ref 0), some (.ref 1), some (.ref 76), some (.ref 114), some (.int x4), some (.int q54.1), none, none], [.int (x4 + (2 : Int32)), .ref 0, .int (q54.2.1 0 (Int32.toNatClampNeg (x4 + (1 : Int32)))), .ref 76], (iq_sh l, q54.2.1, q54.2.2.1, q54.2.2.2))) (fun _ => rfl) ?_
  obtain ⟨hc_, h⟩ := iq_itn h
  refine iq_G_pos (c := iq_in (x4 + (2 : Int32)) l) (σ1 := (1357, [some (.ref 0), some (.ref 1), some (.ref 76), some (.ref 114), some (.int x4), some (.int q54.1), none, none], [.int (q54.2.1 0 (Int32.toNatClampNeg (x4 + (2 : Int32)))), .int (q54.2.1 0 (Int32.toNatClampNeg (x4 + (1 : Int32)))), .ref 76], (iq_sh l, q54.2.1, q54.2.2.1, q54.2.2.2))) (fun _ => rfl) hc_ ?_
  refine iq_G_go (k := 4) (σ' := (1362, [some (.ref 0), some (.ref 1), some (.ref 76), some (.ref 114), some (.int x4), some (.int q54.1), none, none], [.int (x4 + (3 : Int32)), .ref 0, .int (q54.2.1 0 (Int32.toNatClampNeg (x4 + (2 : Int32)))), .int (q54.2.1 0 (Int32.toNatClampNeg (x4 + (1 : Int32)))), .ref 76], (iq_sh l, q54.2.1, q54.2.2.1, q54.2.2.2))) (fun _ => rfl) ?_
  obtain ⟨hc_, h⟩ := iq_itn h
  refine iq_G_pos (c := iq_in (x4 + (3 : Int32)) l) (σ1 := (1363, [some (.ref 0), some (.ref 1), some (.ref 76), some (.ref 114), some (.int x4), some (.int q54.1), none, none], [.int (q54.2.1 0 (Int32.toNatClampNeg (x4 + (3 : Int32)))), .int (q54.2.1 0 (Int32.toNatClampNeg (x4 + (2 : Int32)))), .int (q54.2.1 0 (Int32.toNatClampNeg (x4 + (1 : Int32)))), .ref 76], (iq_sh l, q54.2.1, q54.2.2.1, q54.2.2.2))) (fun _ => rfl) hc_ ?_
  obtain ⟨q55, hq55, h⟩ := iq_bnd h
  refine iq_G_call (σ' := (1366, [some (.ref 0), some (.ref 1), some (.ref 76), some (.ref 114), some (.int x4), some (.int q54.1), none, none], [.int q55.1], (iq_sh l, q55.2, q54.2.2.1, q54.2.2.2))) (fun _ => rfl) (zM_costs_ok l (q54.2.1 0 (Int32.toNatClampNeg (x4 + (1 : Int32)))) (q54.2.1 0 (Int32.toNatClampNeg (x4 + (2 : Int32)))) (q54.2.1 0 (Int32.toNatClampNeg (x4 + (3 : Int32)))) q54.2.1 q54.2.2.1 q54.2.2.2 hq55) rfl rfl ?_
  refine iq_G_go (k := 2) (σ' := (1369, [some (.ref 0), some (.ref 1), some (.ref 76), some (.ref 114), some (.int x4), some (.int q54.1), some (.int q55.1), none], [.ref 76], (iq_sh l, q55.2, q54.2.2.1, q54.2.2.2))) (fun _ => rfl) ?_
  obtain ⟨q56, hq56, h⟩ := iq_bnd h
  refine iq_G_call (σ' := (1372, [some (.ref 0), some (.ref 1), some (.ref 76), some (.ref 114), some (.int x4), some (.int q54.1), some (.int q55.1), none], [.int q56], (iq_sh l, q55.2, q54.2.2.1, q54.2.2.2))) (fun _ => rfl) (zM_thrown_ok l  q55.2 q54.2.2.1 q54.2.2.2 hq56) rfl rfl ?_
  refine iq_G_go (k := 1) (σ' := (1374, [some (.ref 0), some (.ref 1), some (.ref 76), some (.ref 114), some (.int x4), some (.int q54.1), some (.int q55.1), none], [.int q54.1, .int q56], (iq_sh l, q55.2, q54.2.2.1, q54.2.2.2))) (fun _ => rfl) ?_
  rcases iq_ite h with ⟨hc_, h⟩ | ⟨hc_, h⟩
  · refine iq_G_pos (c := q56 = q54.1) (σ1 := (1379, [some (.ref 0), some (.ref 1), some (.ref 76), some (.ref 114), some (.int x4), some (.int q54.1), some (.int q55.1), none], [], (iq_sh l, q55.2, q54.2.2.1, q54.2.2.2))) (fun _ => rfl) hc_ ?_
    refine iq_G_go (k := 1) (σ' := (1381, [some (.ref 0), some (.ref 1), some (.ref 76), some (.ref 114), some (.int x4), some (.int q54.1), some (.int q55.1), none], [.int q54.1], (iq_sh l, q55.2, q54.2.2.1, q54.2.2.2))) (fun _ => rfl) ?_
    rcases iq_ite h with ⟨hc_, h⟩ | ⟨hc_, h⟩
    · refine iq_G_pos (c := ¬ q54.1 = 0) (σ1 := (1396, [some (.ref 0), some (.ref 1), some (.ref 76), some (.ref 114), some (.int x4), some (.int q54.1), some (.int q55.1), none], [], (iq_sh l, q55.2, q54.2.2.1, q54.2.2.2))) (fun _ => rfl) hc_ ?_
      refine iq_G_go (k := 1) (σ' := (2524, [some (.ref 0), some (.ref 1), some (.ref 76), some (.ref 114), some (.int x4), some (.int q54.1), some (.int q55.1), none], [], (iq_sh l, q55.2, q54.2.2.1, q54.2.2.2))) (fun _ => rfl) ?_
      refine iq_G_go (k := 2) (σ' := (23, [some (.ref 0), some (.ref 1), some (.ref 76), some (.ref 114), some (.int (x4 + (6 : Int32))), some (.int q54.1), some (.int q55.1), none], [], (iq_sh l, q55.2, q54.2.2.1, q54.2.2.2))) (fun _ => rfl) ?_
      cases h
      exact iq_G_fg (L := [some (.ref 0), some (.ref 1), some (.ref 76), some (.ref 114), some (.int (x4 + (6 : Int32))), none, none, none]) (And.intro rfl (And.intro rfl (And.intro rfl (And.intro rfl (And.intro rfl trivial))))) (hc ((x4 + (6 : Int32)), q55.2, q54.2.2.1, q54.2.2.2) rfl)
    · refine iq_G_neg (c := ¬ q54.1 = 0) (σ1 := (1384, [some (.ref 0), some (.ref 1), some (.ref 76), some (.ref 114), some (.int x4), some (.int q54.1), some (.int q55.1), none], [], (iq_sh l, q55.2, q54.2.2.1, q54.2.2.2))) (fun _ => rfl) hc_ ?_
      refine iq_G_go (k := 2) (σ' := (1386, [some (.ref 0), some (.ref 1), some (.ref 76), some (.ref 114), some (.int x4), some (.int q54.1), some (.int q55.1), none], [.int (0 : Int32), .ref 114], (iq_sh l, q55.2, q54.2.2.1, q54.2.2.2))) (fun _ => rfl) ?_
      refine iq_G_go (k := 1) (σ' := (1387, [some (.ref 0), some (.ref 1), some (.ref 76), some (.ref 114), some (.int x4), some (.int q54.1), some (.int q55.1), none], [.long (q54.2.2.1 114 0)], (iq_sh l, q55.2, q54.2.2.1, q54.2.2.2))) (fun _ => rfl) ?_
      refine iq_G_go (k := 3) (σ' := (1391, [some (.ref 0), some (.ref 1), some (.ref 76), some (.ref 114), some (.int x4), some (.int q54.1), some (.int q55.1), none], [.int (lg_cmp (q54.2.2.1 114 0) (Int32.toInt64 q55.1))], (iq_sh l, q55.2, q54.2.2.1, q54.2.2.2))) (fun _ => rfl) ?_
      rcases iq_ite h with ⟨hc_, h⟩ | ⟨hc_, h⟩
      · refine iq_G_pos (c := (lg_cmp (q54.2.2.1 114 0) (Int32.toInt64 q55.1)) = 0) (σ1 := (1396, [some (.ref 0), some (.ref 1), some (.ref 76), some (.ref 114), some (.int x4), some (.int q54.1), some (.int q55.1), none], [], (iq_sh l, q55.2, q54.2.2.1, q54.2.2.2))) (fun _ => rfl) hc_ ?_
        refine iq_G_go (k := 1) (σ' := (2524, [some (.ref 0), some (.ref 1), some (.ref 76), some (.ref 114), some (.int x4), some (.int q54.1), some (.int q55.1), none], [], (iq_sh l, q55.2, q54.2.2.1, q54.2.2.2))) (fun _ => rfl) ?_
        refine iq_G_go (k := 2) (σ' := (23, [some (.ref 0), some (.ref 1), some (.ref 76), some (.ref 114), some (.int (x4 + (6 : Int32))), some (.int q54.1), some (.int q55.1), none], [], (iq_sh l, q55.2, q54.2.2.1, q54.2.2.2))) (fun _ => rfl) ?_
        cases h
        exact iq_G_fg (L := [some (.ref 0), some (.ref 1), some (.ref 76), some (.ref 114), some (.int (x4 + (6 : Int32))), none, none, none]) (And.intro rfl (And.intro rfl (And.intro rfl (And.intro rfl (And.intro rfl trivial))))) (hc ((x4 + (6 : Int32)), q55.2, q54.2.2.1, q54.2.2.2) rfl)
      · refine iq_G_neg (c := (lg_cmp (q54.2.2.1 114 0) (Int32.toInt64 q55.1)) = 0) (σ1 := (1394, [some (.ref 0), some (.ref 1), some (.ref 76), some (.ref 114), some (.int x4), some (.int q54.1), some (.int q55.1), none], [], (iq_sh l, q55.2, q54.2.2.1, q54.2.2.2))) (fun _ => rfl) hc_ ?_
        refine iq_G_go (k := 1) (σ' := (1395, [some (.ref 0), some (.ref 1), some (.ref 76), some (.ref 114), some (.int x4), some (.int q54.1), some (.int q55.1), none], [.int (0 : Int32)], (iq_sh l, q55.2, q54.2.2.1, q54.2.2.2))) (fun _ => rfl) ?_
        cases h
        obtain rfl := (hx _ rfl).2 _ rfl
        exact iq_G_ret (fun _ => rfl)
  · refine iq_G_neg (c := q56 = q54.1) (σ1 := (1377, [some (.ref 0), some (.ref 1), some (.ref 76), some (.ref 114), some (.int x4), some (.int q54.1), some (.int q55.1), none], [], (iq_sh l, q55.2, q54.2.2.1, q54.2.2.2))) (fun _ => rfl) hc_ ?_
    refine iq_G_go (k := 1) (σ' := (1378, [some (.ref 0), some (.ref 1), some (.ref 76), some (.ref 114), some (.int x4), some (.int q54.1), some (.int q55.1), none], [.int (0 : Int32)], (iq_sh l, q55.2, q54.2.2.1, q54.2.2.2))) (fun _ => rfl) ?_
    cases h
    obtain rfl := (hx _ rfl).2 _ rfl
    exact iq_G_ret (fun _ => rfl)
set_option maxRecDepth 100000 in
theorem zL_law_1399_ok (l : Nat)  (x4 : Int32) (I : iq_I) (J : iq_J) (X : iq_X)  {q : (Int32 × iq_I × iq_J × iq_X) ⊕ ((iq_I × iq_J × iq_X) ⊕ (Int32 × iq_I × iq_J × iq_X))} (h : zL_law_1399 l x4 I J X = some q) (r : iq_R × iq_M) (hc : ∀ v, q = .inl v → iq_Gg 72 357 (23, [some (.ref 0), some (.ref 1), some (.ref 76), some (.ref 114), some (.int v.1), none, none, none], [], (iq_sh l, v.2.1, v.2.2.1, v.2.2.2)) r) (hx : ∀ w, q = .inr w → (∀ a, w = .inl a → iq_Gg 72 357 (2530, [none, none, none, none, none, none, none, none], [], (iq_sh l, a.1, a.2.1, a.2.2)) r) ∧ (∀ b, w = .inr b → r = (.inl (some (.int b.1)), (iq_sh l, b.2.1, b.2.2.1, b.2.2.2)))) : iq_Gg 72 357 (1399, [some (.ref 0), some (.ref 1), some (.ref 76), some (.ref 114), some (.int x4), none, none, none], [], (iq_sh l, I, J, X)) r := by
  unfold zL_law_1399 at h
  refine iq_G_go (k := 1) (σ' := (1400, [some (.ref 0), some (.ref 1), some (.ref 76), some (.ref 114), some (.int x4), none, none, none], [.ref 1], (iq_sh l, I, J, X))) (fun _ => rfl) ?_
  obtain ⟨q57, hq57, h⟩ := iq_bnd h
  refine iq_G_call (σ' := (1403, [some (.ref 0), some (.ref 1), some (.ref 76), some (.ref 114), some (.int x4), none, none, none], [.int q57.1], (iq_sh l, q57.2, J, X))) (fun _ => rfl) (zO_closed_ok l  I J X hq57) rfl rfl ?_
  refine iq_G_go (k := 1) (σ' := (1404, [some (.ref 0), some (.ref 1), some (.ref 76), some (.ref 114), some (.int x4), none, none, none], [.ref 76, .int q57.1], (iq_sh l, q57.2, J, X))) (fun _ => rfl) ?_
  obtain ⟨q58, hq58, h⟩ := iq_bnd h
  refine iq_G_call (σ' := (1407, [some (.ref 0), some (.ref 1), some (.ref 76), some (.ref 114), some (.int x4), none, none, none], [.int q58.1, .int q57.1], (iq_sh l, q58.2, J, X))) (fun _ => rfl) (zM_closed_ok l  q57.2 J X hq58) rfl rfl ?_
  rcases iq_ite h with ⟨hc_, h⟩ | ⟨hc_, h⟩
  · refine iq_G_pos (c := q57.1 = q58.1) (σ1 := (2524, [some (.ref 0), some (.ref 1), some (.ref 76), some (.ref 114), some (.int x4), none, none, none], [], (iq_sh l, q58.2, J, X))) (fun _ => rfl) hc_ ?_
    refine iq_G_go (k := 2) (σ' := (23, [some (.ref 0), some (.ref 1), some (.ref 76), some (.ref 114), some (.int (x4 + (6 : Int32))), none, none, none], [], (iq_sh l, q58.2, J, X))) (fun _ => rfl) ?_
    cases h
    exact iq_G_fg (L := [some (.ref 0), some (.ref 1), some (.ref 76), some (.ref 114), some (.int (x4 + (6 : Int32))), none, none, none]) (And.intro rfl (And.intro rfl (And.intro rfl (And.intro rfl (And.intro rfl trivial))))) (hc ((x4 + (6 : Int32)), q58.2, J, X) rfl)
  · refine iq_G_neg (c := q57.1 = q58.1) (σ1 := (1410, [some (.ref 0), some (.ref 1), some (.ref 76), some (.ref 114), some (.int x4), none, none, none], [], (iq_sh l, q58.2, J, X))) (fun _ => rfl) hc_ ?_
    refine iq_G_go (k := 1) (σ' := (1411, [some (.ref 0), some (.ref 1), some (.ref 76), some (.ref 114), some (.int x4), none, none, none], [.int (0 : Int32)], (iq_sh l, q58.2, J, X))) (fun _ => rfl) ?_
    cases h
    obtain rfl := (hx _ rfl).2 _ rfl
    exact iq_G_ret (fun _ => rfl)
set_option maxRecDepth 100000 in
theorem zL_law_1412_ok (l : Nat)  (x4 : Int32) (I : iq_I) (J : iq_J) (X : iq_X)  {q : (Int32 × iq_I × iq_J × iq_X) ⊕ ((iq_I × iq_J × iq_X) ⊕ (Int32 × iq_I × iq_J × iq_X))} (h : zL_law_1412 l x4 I J X = some q) (r : iq_R × iq_M) (hc : ∀ v, q = .inl v → iq_Gg 72 357 (23, [some (.ref 0), some (.ref 1), some (.ref 76), some (.ref 114), some (.int v.1), none, none, none], [], (iq_sh l, v.2.1, v.2.2.1, v.2.2.2)) r) (hx : ∀ w, q = .inr w → (∀ a, w = .inl a → iq_Gg 72 357 (2530, [none, none, none, none, none, none, none, none], [], (iq_sh l, a.1, a.2.1, a.2.2)) r) ∧ (∀ b, w = .inr b → r = (.inl (some (.int b.1)), (iq_sh l, b.2.1, b.2.2.1, b.2.2.2)))) : iq_Gg 72 357 (1412, [some (.ref 0), some (.ref 1), some (.ref 76), some (.ref 114), some (.int x4), none, none, none], [], (iq_sh l, I, J, X)) r := by
  unfold zL_law_1412 at h
  refine iq_G_go (k := 5) (σ' := (1418, [some (.ref 0), some (.ref 1), some (.ref 76), some (.ref 114), some (.int x4), none, none, none], [.int (x4 + (1 : Int32)), .ref 0, .ref 1], (iq_sh l, I, J, X))) (fun _ => rfl) ?_
  obtain ⟨hc_, h⟩ := iq_itn h
  refine iq_G_pos (c := iq_in (x4 + (1 : Int32)) l) (σ1 := (1419, [some (.ref 0), some (.ref 1), some (.ref 76), some (.ref 114), some (.int x4), none, none, none], [.int (I 0 (Int32.toNatClampNeg (x4 + (1 : Int32)))), .ref 1], (iq_sh l, I, J, X))) (fun _ => rfl) hc_ ?_
  refine iq_G_go (k := 4) (σ' := (1424, [some (.ref 0), some (.ref 1), some (.ref 76), some (.ref 114), some (.int x4), none, none, none], [.int (x4 + (2 : Int32)), .ref 0, .int (I 0 (Int32.toNatClampNeg (x4 + (1 : Int32)))), .ref 1], (iq_sh l, I, J, X))) (fun _ => rfl) ?_
  obtain ⟨hc_, h⟩ := iq_itn h
  refine iq_G_pos (c := iq_in (x4 + (2 : Int32)) l) (σ1 := (1425, [some (.ref 0), some (.ref 1), some (.ref 76), some (.ref 114), some (.int x4), none, none, none], [.int (I 0 (Int32.toNatClampNeg (x4 + (2 : Int32)))), .int (I 0 (Int32.toNatClampNeg (x4 + (1 : Int32)))), .ref 1], (iq_sh l, I, J, X))) (fun _ => rfl) hc_ ?_
  refine iq_G_go (k := 4) (σ' := (1430, [some (.ref 0), some (.ref 1), some (.ref 76), some (.ref 114), some (.int x4), none, none, none], [.int (x4 + (3 : Int32)), .ref 0, .int (I 0 (Int32.toNatClampNeg (x4 + (2 : Int32)))), .int (I 0 (Int32.toNatClampNeg (x4 + (1 : Int32)))), .ref 1], (iq_sh l, I, J, X))) (fun _ => rfl) ?_
  obtain ⟨hc_, h⟩ := iq_itn h
  refine iq_G_pos (c := iq_in (x4 + (3 : Int32)) l) (σ1 := (1431, [some (.ref 0), some (.ref 1), some (.ref 76), some (.ref 114), some (.int x4), none, none, none], [.int (I 0 (Int32.toNatClampNeg (x4 + (3 : Int32)))), .int (I 0 (Int32.toNatClampNeg (x4 + (2 : Int32)))), .int (I 0 (Int32.toNatClampNeg (x4 + (1 : Int32)))), .ref 1], (iq_sh l, I, J, X))) (fun _ => rfl) hc_ ?_
  refine iq_G_go (k := 4) (σ' := (1436, [some (.ref 0), some (.ref 1), some (.ref 76), some (.ref 114), some (.int x4), none, none, none], [.int (x4 + (4 : Int32)), .ref 0, .int (I 0 (Int32.toNatClampNeg (x4 + (3 : Int32)))), .int (I 0 (Int32.toNatClampNeg (x4 + (2 : Int32)))), .int (I 0 (Int32.toNatClampNeg (x4 + (1 : Int32)))), .ref 1], (iq_sh l, I, J, X))) (fun _ => rfl) ?_
  obtain ⟨hc_, h⟩ := iq_itn h
  refine iq_G_pos (c := iq_in (x4 + (4 : Int32)) l) (σ1 := (1437, [some (.ref 0), some (.ref 1), some (.ref 76), some (.ref 114), some (.int x4), none, none, none], [.int (I 0 (Int32.toNatClampNeg (x4 + (4 : Int32)))), .int (I 0 (Int32.toNatClampNeg (x4 + (3 : Int32)))), .int (I 0 (Int32.toNatClampNeg (x4 + (2 : Int32)))), .int (I 0 (Int32.toNatClampNeg (x4 + (1 : Int32)))), .ref 1], (iq_sh l, I, J, X))) (fun _ => rfl) hc_ ?_
  refine iq_G_go (k := 1) (σ' := (1438, [some (.ref 0), some (.ref 1), some (.ref 76), some (.ref 114), some (.int x4), none, none, none], [.ref 114, .int (I 0 (Int32.toNatClampNeg (x4 + (4 : Int32)))), .int (I 0 (Int32.toNatClampNeg (x4 + (3 : Int32)))), .int (I 0 (Int32.toNatClampNeg (x4 + (2 : Int32)))), .int (I 0 (Int32.toNatClampNeg (x4 + (1 : Int32)))), .ref 1], (iq_sh l, I, J, X))) (fun _ => rfl) ?_
  obtain ⟨q59, hq59, h⟩ := iq_bnd h
  refine iq_G_call (σ' := (1441, [some (.ref 0), some (.ref 1), some (.ref 76), some (.ref 114), some (.int x4), none, none, none], [.int q59.1], (iq_sh l, q59.2.1, q59.2.2.1, q59.2.2.2))) (fun _ => rfl) (zL_odds_ok l (I 0 (Int32.toNatClampNeg (x4 + (1 : Int32)))) (I 0 (Int32.toNatClampNeg (x4 + (2 : Int32)))) (I 0 (Int32.toNatClampNeg (x4 + (3 : Int32)))) (I 0 (Int32.toNatClampNeg (x4 + (4 : Int32)))) I J X hq59) rfl rfl ?_
  refine iq_G_go (k := 6) (σ' := (1449, [some (.ref 0), some (.ref 1), some (.ref 76), some (.ref 114), some (.int x4), some (.int q59.1), none, none], [.int (x4 + (1 : Int32)), .ref 0, .ref 76], (iq_sh l, q59.2.1, q59.2.2.1, q59.2.2.2))) (fun _ => rfl) ?_
  obtain ⟨hc_, h⟩ := iq_itn h
  refine iq_G_pos (c := iq_in (x4 + (1 : Int32)) l) (σ1 := (1450, [some (.ref 0), some (.ref 1), some (.ref 76), some (.ref 114), some (.int x4), some (.int q59.1), none, none], [.int (q59.2.1 0 (Int32.toNatClampNeg (x4 + (1 : Int32)))), .ref 76], (iq_sh l, q59.2.1, q59.2.2.1, q59.2.2.2))) (fun _ => rfl) hc_ ?_
  refine iq_G_go (k := 4) (σ' := (1455, [some (.ref 0), some (.ref 1), some (.ref 76), some (.ref 114), some (.int x4), some (.int q59.1), none, none], [.int (x4 + (2 : Int32)), .ref 0, .int (q59.2.1 0 (Int32.toNatClampNeg (x4 + (1 : Int32)))), .ref 76], (iq_sh l, q59.2.1, q59.2.2.1, q59.2.2.2))) (fun _ => rfl) ?_
  obtain ⟨hc_, h⟩ := iq_itn h
  refine iq_G_pos (c := iq_in (x4 + (2 : Int32)) l) (σ1 := (1456, [some (.ref 0), some (.ref 1), some (.ref 76), some (.ref 114), some (.int x4), some (.int q59.1), none, none], [.int (q59.2.1 0 (Int32.toNatClampNeg (x4 + (2 : Int32)))), .int (q59.2.1 0 (Int32.toNatClampNeg (x4 + (1 : Int32)))), .ref 76], (iq_sh l, q59.2.1, q59.2.2.1, q59.2.2.2))) (fun _ => rfl) hc_ ?_
  refine iq_G_go (k := 4) (σ' := (1461, [some (.ref 0), some (.ref 1), some (.ref 76), some (.ref 114), some (.int x4), some (.int q59.1), none, none], [.int (x4 + (3 : Int32)), .ref 0, .int (q59.2.1 0 (Int32.toNatClampNeg (x4 + (2 : Int32)))), .int (q59.2.1 0 (Int32.toNatClampNeg (x4 + (1 : Int32)))), .ref 76], (iq_sh l, q59.2.1, q59.2.2.1, q59.2.2.2))) (fun _ => rfl) ?_
  obtain ⟨hc_, h⟩ := iq_itn h
  refine iq_G_pos (c := iq_in (x4 + (3 : Int32)) l) (σ1 := (1462, [some (.ref 0), some (.ref 1), some (.ref 76), some (.ref 114), some (.int x4), some (.int q59.1), none, none], [.int (q59.2.1 0 (Int32.toNatClampNeg (x4 + (3 : Int32)))), .int (q59.2.1 0 (Int32.toNatClampNeg (x4 + (2 : Int32)))), .int (q59.2.1 0 (Int32.toNatClampNeg (x4 + (1 : Int32)))), .ref 76], (iq_sh l, q59.2.1, q59.2.2.1, q59.2.2.2))) (fun _ => rfl) hc_ ?_
  refine iq_G_go (k := 4) (σ' := (1467, [some (.ref 0), some (.ref 1), some (.ref 76), some (.ref 114), some (.int x4), some (.int q59.1), none, none], [.int (x4 + (4 : Int32)), .ref 0, .int (q59.2.1 0 (Int32.toNatClampNeg (x4 + (3 : Int32)))), .int (q59.2.1 0 (Int32.toNatClampNeg (x4 + (2 : Int32)))), .int (q59.2.1 0 (Int32.toNatClampNeg (x4 + (1 : Int32)))), .ref 76], (iq_sh l, q59.2.1, q59.2.2.1, q59.2.2.2))) (fun _ => rfl) ?_
  obtain ⟨hc_, h⟩ := iq_itn h
  refine iq_G_pos (c := iq_in (x4 + (4 : Int32)) l) (σ1 := (1468, [some (.ref 0), some (.ref 1), some (.ref 76), some (.ref 114), some (.int x4), some (.int q59.1), none, none], [.int (q59.2.1 0 (Int32.toNatClampNeg (x4 + (4 : Int32)))), .int (q59.2.1 0 (Int32.toNatClampNeg (x4 + (3 : Int32)))), .int (q59.2.1 0 (Int32.toNatClampNeg (x4 + (2 : Int32)))), .int (q59.2.1 0 (Int32.toNatClampNeg (x4 + (1 : Int32)))), .ref 76], (iq_sh l, q59.2.1, q59.2.2.1, q59.2.2.2))) (fun _ => rfl) hc_ ?_
  obtain ⟨q60, hq60, h⟩ := iq_bnd h
  refine iq_G_call (σ' := (1471, [some (.ref 0), some (.ref 1), some (.ref 76), some (.ref 114), some (.int x4), some (.int q59.1), none, none], [.int q60.1], (iq_sh l, q60.2, q59.2.2.1, q59.2.2.2))) (fun _ => rfl) (zM_odds_ok l (q59.2.1 0 (Int32.toNatClampNeg (x4 + (1 : Int32)))) (q59.2.1 0 (Int32.toNatClampNeg (x4 + (2 : Int32)))) (q59.2.1 0 (Int32.toNatClampNeg (x4 + (3 : Int32)))) (q59.2.1 0 (Int32.toNatClampNeg (x4 + (4 : Int32)))) q59.2.1 q59.2.2.1 q59.2.2.2 hq60) rfl rfl ?_
  refine iq_G_go (k := 2) (σ' := (1474, [some (.ref 0), some (.ref 1), some (.ref 76), some (.ref 114), some (.int x4), some (.int q59.1), some (.int q60.1), none], [.ref 76], (iq_sh l, q60.2, q59.2.2.1, q59.2.2.2))) (fun _ => rfl) ?_
  obtain ⟨q61, hq61, h⟩ := iq_bnd h
  refine iq_G_call (σ' := (1477, [some (.ref 0), some (.ref 1), some (.ref 76), some (.ref 114), some (.int x4), some (.int q59.1), some (.int q60.1), none], [.int q61], (iq_sh l, q60.2, q59.2.2.1, q59.2.2.2))) (fun _ => rfl) (zM_thrown_ok l  q60.2 q59.2.2.1 q59.2.2.2 hq61) rfl rfl ?_
  refine iq_G_go (k := 1) (σ' := (1479, [some (.ref 0), some (.ref 1), some (.ref 76), some (.ref 114), some (.int x4), some (.int q59.1), some (.int q60.1), none], [.int q59.1, .int q61], (iq_sh l, q60.2, q59.2.2.1, q59.2.2.2))) (fun _ => rfl) ?_
  rcases iq_ite h with ⟨hc_, h⟩ | ⟨hc_, h⟩
  · refine iq_G_pos (c := q61 = q59.1) (σ1 := (1484, [some (.ref 0), some (.ref 1), some (.ref 76), some (.ref 114), some (.int x4), some (.int q59.1), some (.int q60.1), none], [], (iq_sh l, q60.2, q59.2.2.1, q59.2.2.2))) (fun _ => rfl) hc_ ?_
    refine iq_G_go (k := 1) (σ' := (1486, [some (.ref 0), some (.ref 1), some (.ref 76), some (.ref 114), some (.int x4), some (.int q59.1), some (.int q60.1), none], [.int q59.1], (iq_sh l, q60.2, q59.2.2.1, q59.2.2.2))) (fun _ => rfl) ?_
    rcases iq_ite h with ⟨hc_, h⟩ | ⟨hc_, h⟩
    · refine iq_G_pos (c := ¬ q59.1 = 0) (σ1 := (1501, [some (.ref 0), some (.ref 1), some (.ref 76), some (.ref 114), some (.int x4), some (.int q59.1), some (.int q60.1), none], [], (iq_sh l, q60.2, q59.2.2.1, q59.2.2.2))) (fun _ => rfl) hc_ ?_
      refine iq_G_go (k := 1) (σ' := (2524, [some (.ref 0), some (.ref 1), some (.ref 76), some (.ref 114), some (.int x4), some (.int q59.1), some (.int q60.1), none], [], (iq_sh l, q60.2, q59.2.2.1, q59.2.2.2))) (fun _ => rfl) ?_
      refine iq_G_go (k := 2) (σ' := (23, [some (.ref 0), some (.ref 1), some (.ref 76), some (.ref 114), some (.int (x4 + (6 : Int32))), some (.int q59.1), some (.int q60.1), none], [], (iq_sh l, q60.2, q59.2.2.1, q59.2.2.2))) (fun _ => rfl) ?_
      cases h
      exact iq_G_fg (L := [some (.ref 0), some (.ref 1), some (.ref 76), some (.ref 114), some (.int (x4 + (6 : Int32))), none, none, none]) (And.intro rfl (And.intro rfl (And.intro rfl (And.intro rfl (And.intro rfl trivial))))) (hc ((x4 + (6 : Int32)), q60.2, q59.2.2.1, q59.2.2.2) rfl)
    · refine iq_G_neg (c := ¬ q59.1 = 0) (σ1 := (1489, [some (.ref 0), some (.ref 1), some (.ref 76), some (.ref 114), some (.int x4), some (.int q59.1), some (.int q60.1), none], [], (iq_sh l, q60.2, q59.2.2.1, q59.2.2.2))) (fun _ => rfl) hc_ ?_
      refine iq_G_go (k := 2) (σ' := (1491, [some (.ref 0), some (.ref 1), some (.ref 76), some (.ref 114), some (.int x4), some (.int q59.1), some (.int q60.1), none], [.int (0 : Int32), .ref 114], (iq_sh l, q60.2, q59.2.2.1, q59.2.2.2))) (fun _ => rfl) ?_
      refine iq_G_go (k := 1) (σ' := (1492, [some (.ref 0), some (.ref 1), some (.ref 76), some (.ref 114), some (.int x4), some (.int q59.1), some (.int q60.1), none], [.long (q59.2.2.1 114 0)], (iq_sh l, q60.2, q59.2.2.1, q59.2.2.2))) (fun _ => rfl) ?_
      refine iq_G_go (k := 3) (σ' := (1496, [some (.ref 0), some (.ref 1), some (.ref 76), some (.ref 114), some (.int x4), some (.int q59.1), some (.int q60.1), none], [.int (lg_cmp (q59.2.2.1 114 0) (Int32.toInt64 q60.1))], (iq_sh l, q60.2, q59.2.2.1, q59.2.2.2))) (fun _ => rfl) ?_
      rcases iq_ite h with ⟨hc_, h⟩ | ⟨hc_, h⟩
      · refine iq_G_pos (c := (lg_cmp (q59.2.2.1 114 0) (Int32.toInt64 q60.1)) = 0) (σ1 := (1501, [some (.ref 0), some (.ref 1), some (.ref 76), some (.ref 114), some (.int x4), some (.int q59.1), some (.int q60.1), none], [], (iq_sh l, q60.2, q59.2.2.1, q59.2.2.2))) (fun _ => rfl) hc_ ?_
        refine iq_G_go (k := 1) (σ' := (2524, [some (.ref 0), some (.ref 1), some (.ref 76), some (.ref 114), some (.int x4), some (.int q59.1), some (.int q60.1), none], [], (iq_sh l, q60.2, q59.2.2.1, q59.2.2.2))) (fun _ => rfl) ?_
        refine iq_G_go (k := 2) (σ' := (23, [some (.ref 0), some (.ref 1), some (.ref 76), some (.ref 114), some (.int (x4 + (6 : Int32))), some (.int q59.1), some (.int q60.1), none], [], (iq_sh l, q60.2, q59.2.2.1, q59.2.2.2))) (fun _ => rfl) ?_
        cases h
        exact iq_G_fg (L := [some (.ref 0), some (.ref 1), some (.ref 76), some (.ref 114), some (.int (x4 + (6 : Int32))), none, none, none]) (And.intro rfl (And.intro rfl (And.intro rfl (And.intro rfl (And.intro rfl trivial))))) (hc ((x4 + (6 : Int32)), q60.2, q59.2.2.1, q59.2.2.2) rfl)
      · refine iq_G_neg (c := (lg_cmp (q59.2.2.1 114 0) (Int32.toInt64 q60.1)) = 0) (σ1 := (1499, [some (.ref 0), some (.ref 1), some (.ref 76), some (.ref 114), some (.int x4), some (.int q59.1), some (.int q60.1), none], [], (iq_sh l, q60.2, q59.2.2.1, q59.2.2.2))) (fun _ => rfl) hc_ ?_
        refine iq_G_go (k := 1) (σ' := (1500, [some (.ref 0), some (.ref 1), some (.ref 76), some (.ref 114), some (.int x4), some (.int q59.1), some (.int q60.1), none], [.int (0 : Int32)], (iq_sh l, q60.2, q59.2.2.1, q59.2.2.2))) (fun _ => rfl) ?_
        cases h
        obtain rfl := (hx _ rfl).2 _ rfl
        exact iq_G_ret (fun _ => rfl)
  · refine iq_G_neg (c := q61 = q59.1) (σ1 := (1482, [some (.ref 0), some (.ref 1), some (.ref 76), some (.ref 114), some (.int x4), some (.int q59.1), some (.int q60.1), none], [], (iq_sh l, q60.2, q59.2.2.1, q59.2.2.2))) (fun _ => rfl) hc_ ?_
    refine iq_G_go (k := 1) (σ' := (1483, [some (.ref 0), some (.ref 1), some (.ref 76), some (.ref 114), some (.int x4), some (.int q59.1), some (.int q60.1), none], [.int (0 : Int32)], (iq_sh l, q60.2, q59.2.2.1, q59.2.2.2))) (fun _ => rfl) ?_
    cases h
    obtain rfl := (hx _ rfl).2 _ rfl
    exact iq_G_ret (fun _ => rfl)
