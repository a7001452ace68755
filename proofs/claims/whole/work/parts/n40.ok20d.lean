/-! ===== the law ===== -/
set_option maxRecDepth 100000 in
theorem zL_law_2172_ok (l : Nat)  (x4 : Int32) (I : iq_I) (J : iq_J) (X : iq_X)  {q : (Int32 × iq_I × iq_J × iq_X) ⊕ ((iq_I × iq_J × iq_X) ⊕ (Int32 × iq_I × iq_J × iq_X))} (h : zL_law_2172 l x4 I J X = some q) (r : iq_R × iq_M) (hc : ∀ v, q = .inl v → iq_Gg 72 357 (23, [some (.ref 0), some (.ref 1), some (.ref 76), some (.ref 114), some (.int v.1), none, none, none], [], (iq_sh l, v.2.1, v.2.2.1, v.2.2.2)) r) (hx : ∀ w, q = .inr w → (∀ a, w = .inl a → iq_Gg 72 357 (2530, [none, none, none, none, none, none, none, none], [], (iq_sh l, a.1, a.2.1, a.2.2)) r) ∧ (∀ b, w = .inr b → r = (.inl (some (.int b.1)), (iq_sh l, b.2.1, b.2.2.1, b.2.2.2)))) : iq_Gg 72 357 (2172, [some (.ref 0), some (.ref 1), some (.ref 76), some (.ref 114), some (.int x4), none, none, none], [], (iq_sh l, I, J, X)) r := by
  unfold zL_law_2172 at h
  refine iq_G_go (k := 5) (σ' := (2178, [some (.ref 0), some (.ref 1), some (.ref 76), some (.ref 114), some (.int x4), none, none, none], [.int (x4 + (1 : Int32)), .ref 0, .ref 1], (iq_sh l, I, J, X))) (fun _ => rfl) ?_
  obtain ⟨hc_, h⟩ := iq_itn h
  refine iq_G_pos (c := iq_in (x4 + (1 : Int32)) l) (σ1 := (2179, [some (.ref 0), some (.ref 1), some (.ref 76), some (.ref 114), some (.int x4), none, none, none], [.int (I 0 (Int32.toNatClampNeg (x4 + (1 : Int32)))), .ref 1], (iq_sh l, I, J, X))) (fun _ => rfl) hc_ ?_
  refine iq_G_go (k := 4) (σ' := (2184, [some (.ref 0), some (.ref 1), some (.ref 76), some (.ref 114), some (.int x4), none, none, none], [.int (x4 + (2 : Int32)), .ref 0, .int (I 0 (Int32.toNatClampNeg (x4 + (1 : Int32)))), .ref 1], (iq_sh l, I, J, X))) (fun _ => rfl) ?_
  obtain ⟨hc_, h⟩ := iq_itn h
  refine iq_G_pos (c := iq_in (x4 + (2 : Int32)) l) (σ1 := (2185, [some (.ref 0), some (.ref 1), some (.ref 76), some (.ref 114), some (.int x4), none, none, none], [.int (I 0 (Int32.toNatClampNeg (x4 + (2 : Int32)))), .int (I 0 (Int32.toNatClampNeg (x4 + (1 : Int32)))), .ref 1], (iq_sh l, I, J, X))) (fun _ => rfl) hc_ ?_
  refine iq_G_go (k := 1) (σ' := (2186, [some (.ref 0), some (.ref 1), some (.ref 76), some (.ref 114), some (.int x4), none, none, none], [.ref 114, .int (I 0 (Int32.toNatClampNeg (x4 + (2 : Int32)))), .int (I 0 (Int32.toNatClampNeg (x4 + (1 : Int32)))), .ref 1], (iq_sh l, I, J, X))) (fun _ => rfl) ?_
  obtain ⟨q96, hq96, h⟩ := iq_bnd h
  refine iq_G_call (σ' := (2189, [some (.ref 0), some (.ref 1), some (.ref 76), some (.ref 114), some (.int x4), none, none, none], [.int q96.1], (iq_sh l, q96.2.1, q96.2.2.1, q96.2.2.2))) (fun _ => rfl) (zL_mend_ok l (I 0 (Int32.toNatClampNeg (x4 + (1 : Int32)))) (I 0 (Int32.toNatClampNeg (x4 + (2 : Int32)))) I J X hq96) rfl rfl ?_
  refine iq_G_go (k := 6) (σ' := (2197, [some (.ref 0), some (.ref 1), some (.ref 76), some (.ref 114), some (.int x4), some (.int q96.1), none, none], [.int (x4 + (1 : Int32)), .ref 0, .ref 76], (iq_sh l, q96.2.1, q96.2.2.1, q96.2.2.2))) (fun _ => rfl) ?_
  obtain ⟨hc_, h⟩ := iq_itn h
  refine iq_G_pos (c := iq_in (x4 + (1 : Int32)) l) (σ1 := (2198, [some (.ref 0), some (.ref 1), some (.ref 76), some (.ref 114), some (.int x4), some (.int q96.1), none, none], [.int (q96.2.1 0 (Int32.toNatClampNeg (x4 + (1 : Int32)))), .ref 76], (iq_sh l, q96.2.1, q96.2.2.1, q96.2.2.2))) (fun _ => rfl) hc_ ?_
  refine iq_G_go (k := 4) (σ' := (2203, [some (.ref 0), some (.ref 1), some (.ref 76), some (.ref 114), some (.int x4), some (.int q96.1), none, none], [.int (x4 + (2 : Int32)), .ref 0, .int (q96.2.1 0 (Int32.toNatClampNeg (x4 + (1 : Int32)))), .ref 76], (iq_sh l, q96.2.1, q96.2.2.1, q96.2.2.2))) (fun _ => rfl) ?_
  obtain ⟨hc_, h⟩ := iq_itn h
  refine iq_G_pos (c := iq_in (x4 + (2 : Int32)) l) (σ1 := (2204, [some (.ref 0), some (.ref 1), some (.ref 76), some (.ref 114), some (.int x4), some (.int q96.1), none, none], [.int (q96.2.1 0 (Int32.toNatClampNeg (x4 + (2 : Int32)))), .int (q96.2.1 0 (Int32.toNatClampNeg (x4 + (1 : Int32)))), .ref 76], (iq_sh l, q96.2.1, q96.2.2.1, q96.2.2.2))) (fun _ => rfl) hc_ ?_
  obtain ⟨q97, hq97, h⟩ := iq_bnd h
  refine iq_G_call (σ' := (2207, [some (.ref 0), some (.ref 1), some (.ref 76), some (.ref 114), some (.int x4), some (.int q96.1), none, none], [.int q97.1], (iq_sh l, q97.2, q96.2.2.1, q96.2.2.2))) (fun _ => rfl) (zM_mend_ok l (q96.2.1 0 (Int32.toNatClampNeg (x4 + (1 : Int32)))) (q96.2.1 0 (Int32.toNatClampNeg (x4 + (2 : Int32)))) q96.2.1 q96.2.2.1 q96.2.2.2 hq97) rfl rfl ?_
  refine iq_G_go (k := 2) (σ' := (2210, [some (.ref 0), some (.ref 1), some (.ref 76), some (.ref 114), some (.int x4), some (.int q96.1), some (.int q97.1), none], [.ref 76], (iq_sh l, q97.2, q96.2.2.1, q96.2.2.2))) (fun _ => rfl) ?_
  obtain ⟨q98, hq98, h⟩ := iq_bnd h
  refine iq_G_call (σ' := (2213, [some (.ref 0), some (.ref 1), some (.ref 76), some (.ref 114), some (.int x4), some (.int q96.1), some (.int q97.1), none], [.int q98], (iq_sh l, q97.2, q96.2.2.1, q96.2.2.2))) (fun _ => rfl) (zM_thrown_ok l  q97.2 q96.2.2.1 q96.2.2.2 hq98) rfl rfl ?_
  refine iq_G_go (k := 1) (σ' := (2215, [some (.ref 0), some (.ref 1), some (.ref 76), some (.ref 114), some (.int x4), some (.int q96.1), some (.int q97.1), none], [.int q96.1, .int q98], (iq_sh l, q97.2, q96.2.2.1, q96.2.2.2))) (fun _ => rfl) ?_
  rcases iq_ite h with ⟨hc_, h⟩ | ⟨hc_, h⟩
  · refine iq_G_pos (c := q98 = q96.1) (σ1 := (2220, [some (.ref 0), some (.ref 1), some (.ref 76), some (.ref 114), some (.int x4), some (.int q96.1), some (.int q97.1), none], [], (iq_sh l, q97.2, q96.2.2.1, q96.2.2.2))) (fun _ => rfl) hc_ ?_
    refine iq_G_go (k := 1) (σ' := (2222, [some (.ref 0), some (.ref 1), some (.ref 76), some (.ref 114), some (.int x4), some (.int q96.1), some (.int q97.1), none], [.int q96.1], (iq_sh l, q97.2, q96.2.2.1, q96.2.2.2))) (fun _ => rfl) ?_
    rcases iq_ite h with ⟨hc_, h⟩ | ⟨hc_, h⟩
    · refine iq_G_pos (c := ¬ q96.1 = 0) (σ1 := (2237, [some (.ref 0), some (.ref 1), some (.ref 76), some (.ref 114), some (.int x4), some (.int q96.1), some (.int q97.1), none], [], (iq_sh l, q97.2, q96.2.2.1, q96.2.2.2))) (fun _ => rfl) hc_ ?_
      refine iq_G_go (k := 1) (σ' := (2524, [some (.ref 0), some (.ref 1), some (.ref 76), some (.ref 114), some (.int x4), some (.int q96.1), some (.int q97.1), none], [], (iq_sh l, q97.2, q96.2.2.1, q96.2.2.2))) (fun _ => rfl) ?_
      refine iq_G_go (k := 2) (σ' := (23, [some (.ref 0), some (.ref 1), some (.ref 76), some (.ref 114), some (.int (x4 + (6 : Int32))), some (.int q96.1), some (.int q97.1), none], [], (iq_sh l, q97.2, q96.2.2.1, q96.2.2.2))) (fun _ => rfl) ?_
      cases h
      exact iq_G_fg (L := [some (.ref 0), some (.ref 1), some (.ref 76), some (.ref 114), some (.int (x4 + (6 : Int32))), none, none, none]) (And.intro rfl (And.intro rfl (And.intro rfl (And.intro rfl (And.intro rfl trivial))))) (hc ((x4 + (6 : Int32)), q97.2, q96.2.2.1, q96.2.2.2) rfl)
    · refine iq_G_neg (c := ¬ q96.1 = 0) (σ1 := (2225, [some (.ref 0), some (.ref 1), some (.ref 76), some (.ref 114), some (.int x4), some (.int q96.1), some (.int q97.1), none], [], (iq_sh l, q97.2, q96.2.2.1, q96.2.2.2))) (fun _ => rfl) hc_ ?_
      refine iq_G_go (k := 2) (σ' := (2227, [some (.ref 0), some (.ref 1), some (.ref 76), some (.ref 114), some (.int x4), some (.int q96.1), some (.int q97.1), none], [.int (0 : Int32), .ref 114], (iq_sh l, q97.2, q96.2.2.1, q96.2.2.2))) (fun _ => rfl) ?_
      refine iq_G_go (k := 1) (σ' := (2228, [some (.ref 0), some (.ref 1), some (.ref 76), some (.ref 114), some (.int x4), some (.int q96.1), some (.int q97.1), none], [.long (q96.2.2.1 114 0)], (iq_sh l, q97.2, q96.2.2.1, q96.2.2.2))) (fun _ => rfl) ?_
      refine iq_G_go (k := 3) (σ' := (2232, [some (.ref 0), some (.ref 1), some (.ref 76), some (.ref 114), some (.int x4), some (.int q96.1), some (.int q97.1), none], [.int (lg_cmp (q96.2.2.1 114 0) (Int32.toInt64 q97.1))], (iq_sh l, q97.2, q96.2.2.1, q96.2.2.2))) (fun _ => rfl) ?_
      rcases iq_ite h with ⟨hc_, h⟩ | ⟨hc_, h⟩
      · refine iq_G_pos (c := (lg_cmp (q96.2.2.1 114 0) (Int32.toInt64 q97.1)) = 0) (σ1 := (2237, [some (.ref 0), some (.ref 1), some (.ref 76), some (.ref 114), some (.int x4), some (.int q96.1), some (.int q97.1), none], [], (iq_sh l, q97.2, q96.2.2.1, q96.2.2.2))) (fun _ => rfl) hc_ ?_
        refine iq_G_go (k := 1) (σ' := (2524, [some (.ref 0), some (.ref 1), some (.ref 76), some (.ref 114), some (.int x4), some (.int q96.1), some (.int q97.1), none], [], (iq_sh l, q97.2, q96.2.2.1, q96.2.2.2))) (fun _ => rfl) ?_
        refine iq_G_go (k := 2) (σ' := (23, [some (.ref 0), some (.ref 1), some (.ref 76), some (.ref 114), some (.int (x4 + (6 : Int32))), some (.int q96.1), some (.int q97.1), none], [], (iq_sh l, q97.2, q96.2.2.1, q96.2.2.2))) (fun _ => rfl) ?_
        cases h
        exact iq_G_fg (L := [some (.ref 0), some (.ref 1), some (.ref 76), some (.ref 114), some (.int (x4 + (6 : Int32))), none, none, none]) (And.intro rfl (And.intro rfl (And.intro rfl (And.intro rfl (And.intro rfl trivial))))) (hc ((x4 + (6 : Int32)), q97.2, q96.2.2.1, q96.2.2.2) rfl)
      · refine iq_G_neg (c := (lg_cmp (q96.2.2.1 114 0) (Int32.toInt64 q97.1)) = 0) (σ1 := (2235, [some (.ref 0), some (.ref 1), some (.ref 76), some (.ref 114), some (.int x4), some (.int q96.1), some (.int q97.1), none], [], (iq_sh l, q97.2, q96.2.2.1, q96.2.2.2))) (fun _ => rfl) hc_ ?_
        refine iq_G_go (k := 1) (σ' := (2236, [some (.ref 0), some (.ref 1), some (.ref 76), some (.ref 114), some (.int x4), some (.int q96.1), some (.int q97.1), none], [.int (0 : Int32)], (iq_sh l, q97.2, q96.2.2.1, q96.2.2.2))) (fun _ => rfl) ?_
        cases h
        obtain rfl := (hx _ rfl).2 _ rfl
        exact iq_G_ret (fun _ => rfl)
  · refine iq_G_neg (c := q98 = q96.1) (σ1 := (2218, [some (.ref 0), some (.ref 1), some (.ref 76), some (.ref 114), some (.int x4), some (.int q96.1), some (.int q97.1), none], [], (iq_sh l, q97.2, q96.2.2.1, q96.2.2.2))) (fun _ => rfl) hc_ ?_
    refine iq_G_go (k := 1) (σ' := (2219, [some (.ref 0), some (.ref 1), some (.ref 76), some (.ref 114), some (.int x4), some (.int q96.1), some (.int q97.1), none], [.int (0 : Int32)], (iq_sh l, q97.2, q96.2.2.1, q96.2.2.2))) (fun _ => rfl) ?_
    cases h
    obtain rfl := (hx _ rfl).2 _ rfl
    exact iq_G_ret (fun _ => rfl)
set_option maxRecDepth 100000 in
theorem zL_law_2240_ok (l : Nat)  (x4 : Int32) (I : iq_I) (J : iq_J) (X : iq_X)  {q : (Int32 × iq_I × iq_J × iq_X) ⊕ ((iq_I × iq_J × iq_X) ⊕ (Int32 × iq_I × iq_J × iq_X))} (h : zL_law_2240 l x4 I J X = some q) (r : iq_R × iq_M) (hc : ∀ v, q = .inl v → iq_Gg 72 357 (23, [some (.ref 0), some (.ref 1), some (.ref 76), some (.ref 114), some (.int v.1), none, none, none], [], (iq_sh l, v.2.1, v.2.2.1, v.2.2.2)) r) (hx : ∀ w, q = .inr w → (∀ a, w = .inl a → iq_Gg 72 357 (2530, [none, none, none, none, none, none, none, none], [], (iq_sh l, a.1, a.2.1, a.2.2)) r) ∧ (∀ b, w = .inr b → r = (.inl (some (.int b.1)), (iq_sh l, b.2.1, b.2.2.1, b.2.2.2)))) : iq_Gg 72 357 (2240, [some (.ref 0), some (.ref 1), some (.ref 76), some (.ref 114), some (.int x4), none, none, none], [], (iq_sh l, I, J, X)) r := by
  unfold zL_law_2240 at h
  refine iq_G_go (k := 5) (σ' := (2246, [some (.ref 0), some (.ref 1), some (.ref 76), some (.ref 114), some (.int x4), none, none, none], [.int (x4 + (1 : Int32)), .ref 0, .ref 1], (iq_sh l, I, J, X))) (fun _ => rfl) ?_
  obtain ⟨hc_, h⟩ := iq_itn h
  refine iq_G_pos (c := iq_in (x4 + (1 : Int32)) l) (σ1 := (2247, [some (.ref 0), some (.ref 1), some (.ref 76), some (.ref 114), some (.int x4), none, none, none], [.int (I 0 (Int32.toNatClampNeg (x4 + (1 : Int32)))), .ref 1], (iq_sh l, I, J, X))) (fun _ => rfl) hc_ ?_
  refine iq_G_go (k := 4) (σ' := (2252, [some (.ref 0), some (.ref 1), some (.ref 76), some (.ref 114), some (.int x4), none, none, none], [.int (x4 + (2 : Int32)), .ref 0, .int (I 0 (Int32.toNatClampNeg (x4 + (1 : Int32)))), .ref 1], (iq_sh l, I, J, X))) (fun _ => rfl) ?_
  obtain ⟨hc_, h⟩ := iq_itn h
  refine iq_G_pos (c := iq_in (x4 + (2 : Int32)) l) (σ1 := (2253, [some (.ref 0), some (.ref 1), some (.ref 76), some (.ref 114), some (.int x4), none, none, none], [.int (I 0 (Int32.toNatClampNeg (x4 + (2 : Int32)))), .int (I 0 (Int32.toNatClampNeg (x4 + (1 : Int32)))), .ref 1], (iq_sh l, I, J, X))) (fun _ => rfl) hc_ ?_
  refine iq_G_go (k := 4) (σ' := (2258, [some (.ref 0), some (.ref 1), some (.ref 76), some (.ref 114), some (.int x4), none, none, none], [.int (x4 + (3 : Int32)), .ref 0, .int (I 0 (Int32.toNatClampNeg (x4 + (2 : Int32)))), .int (I 0 (Int32.toNatClampNeg (x4 + (1 : Int32)))), .ref 1], (iq_sh l, I, J, X))) (fun _ => rfl) ?_
  obtain ⟨hc_, h⟩ := iq_itn h
  refine iq_G_pos (c := iq_in (x4 + (3 : Int32)) l) (σ1 := (2259, [some (.ref 0), some (.ref 1), some (.ref 76), some (.ref 114), some (.int x4), none, none, none], [.int (I 0 (Int32.toNatClampNeg (x4 + (3 : Int32)))), .int (I 0 (Int32.toNatClampNeg (x4 + (2 : Int32)))), .int (I 0 (Int32.toNatClampNeg (x4 + (1 : Int32)))), .ref 1], (iq_sh l, I, J, X))) (fun _ => rfl) hc_ ?_
  refine iq_G_go (k := 1) (σ' := (2260, [some (.ref 0), some (.ref 1), some (.ref 76), some (.ref 114), some (.int x4), none, none, none], [.ref 114, .int (I 0 (Int32.toNatClampNeg (x4 + (3 : Int32)))), .int (I 0 (Int32.toNatClampNeg (x4 + (2 : Int32)))), .int (I 0 (Int32.toNatClampNeg (x4 + (1 : Int32)))), .ref 1], (iq_sh l, I, J, X))) (fun _ => rfl) ?_
  obtain ⟨q99, hq99, h⟩ := iq_bnd h
  refine iq_G_call (σ' := (2263, [some (.ref 0), some (.ref 1), some (.ref 76), some (.ref 114), some (.int x4), none, none, none], [.int q99.1], (iq_sh l, q99.2.1, q99.2.2.1, q99.2.2.2))) (fun _ => rfl) (zL_shared_ok l (I 0 (Int32.toNatClampNeg (x4 + (1 : Int32)))) (I 0 (Int32.toNatClampNeg (x4 + (2 : Int32)))) (I 0 (Int32.toNatClampNeg (x4 + (3 : Int32)))) I J X hq99) rfl rfl ?_
  refine iq_G_go (k := 6) (σ' := (2271, [some (.ref 0), some (.ref 1), some (.ref 76), some (.ref 114), some (.int x4), some (.int q99.1), none, none], [.int (x4 + (1 : Int32)), .ref 0, .ref 76], (iq_sh l, q99.2.1, q99.2.2.1, q99.2.2.2))) (fun _ => rfl) ?_
  obtain ⟨hc_, h⟩ := iq_itn h
  refine iq_G_pos (c := iq_in (x4 + (1 : Int32)) l) (σ1 := (2272, [some (.ref 0), some (.ref 1), some (.ref 76), some (.ref 114), some (.int x4), some (.int q99.1), none, none], [.int (q99.2.1 0 (Int32.toNatClampNeg (x4 + (1 : Int32)))), .ref 76], (iq_sh l, q99.2.1, q99.2.2.1, q99.2.2.2))) (fun _ => rfl) hc_ ?_
  refine iq_G_go (k := 4) (σ' := (2277, [some (.ref 0), some (.ref 1), some (.ref 76), some (.ref 114), some (.int x4), some (.int q99.1), none, none], [.int (x4 + (2 : Int32)), .ref 0, .int (q99.2.1 0 (Int32.toNatClampNeg (x4 + (1 : Int32)))), .ref 76], (iq_sh l, q99.2.1, q99.2.2.1, q99.2.2.2))) (fun _ => rfl) ?_
  obtain ⟨hc_, h⟩ := iq_itn h
  refine iq_G_pos (c := iq_in (x4 + (2 : Int32)) l) (σ1 := (2278, [some (.ref 0), some (.ref 1), some (.ref 76), some (.ref 114), some (.int x4), some (.int q99.1), none, none], [.int (q99.2.1 0 (Int32.toNatClampNeg (x4 + (2 : Int32)))), .int (q99.2.1 0 (Int32.toNatClampNeg (x4 + (1 : Int32)))), .ref 76], (iq_sh l, q99.2.1, q99.2.2.1, q99.2.2.2))) (fun _ => rfl) hc_ ?_
  refine iq_G_go (k := 4) (σ' := (2283, [some (.ref 0), some (.ref 1), some (.ref 76), some (.ref 114), some (.int x4), some (.int q99.1), none, none], [.int (x4 + (3 : Int32)), .ref 0, .int (q99.2.1 0 (Int32.toNatClampNeg (x4 + (2 : Int32)))), .int (q99.2.1 0 (Int32.toNatClampNeg (x4 + (1 : Int32)))), .ref 76], (iq_sh l, q99.2.1, q99.2.2.1, q99.2.2.2))) (fun _ => rfl) ?_
  obtain ⟨hc_, h⟩ := iq_itn h
  refine iq_G_pos (c := iq_in (x4 + (3 : Int32)) l) (σ1 := (2284, [some (.ref 0), some (.ref 1), some (.ref 76), some (.ref 114), some (.int x4), some (.int q99.1), none, none], [.int (q99.2.1 0 (Int32.toNatClampNeg (x4 + (3 : Int32)))), .int (q99.2.1 0 (Int32.toNatClampNeg (x4 + (2 : Int32)))), .int (q99.2.1 0 (Int32.toNatClampNeg (x4 + (1 : Int32)))), .ref 76], (iq_sh l, q99.2.1, q99.2.2.1, q99.2.2.2))) (fun _ => rfl) hc_ ?_
  obtain ⟨q100, hq100, h⟩ := iq_bnd h
  refine iq_G_call (σ' := (2287, [some (.ref 0), some (.ref 1), some (.ref 76), some (.ref 114), some (.int x4), some (.int q99.1), none, none], [.int q100.1], (iq_sh l, q100.2, q99.2.2.1, q99.2.2.2))) (fun _ => rfl) (zM_shared_ok l (q99.2.1 0 (Int32.toNatClampNeg (x4 + (1 : Int32)))) (q99.2.1 0 (Int32.toNatClampNeg (x4 + (2 : Int32)))) (q99.2.1 0 (Int32.toNatClampNeg (x4 + (3 : Int32)))) q99.2.1 q99.2.2.1 q99.2.2.2 hq100) rfl rfl ?_
  refine iq_G_go (k := 2) (σ' := (2290, [some (.ref 0), some (.ref 1), some (.ref 76), some (.ref 114), some (.int x4), some (.int q99.1), some (.int q100.1), none], [.ref 76], (iq_sh l, q100.2, q99.2.2.1, q99.2.2.2))) (fun _ => rfl) ?_
  obtain ⟨q101, hq101, h⟩ := iq_bnd h
  refine iq_G_call (σ' := (2293, [some (.ref 0), some (.ref 1), some (.ref 76), some (.ref 114), some (.int x4), some (.int q99.1), some (.int q100.1), none], [.int q101], (iq_sh l, q100.2, q99.2.2.1, q99.2.2.2))) (fun _ => rfl) (zM_thrown_ok l  q100.2 q99.2.2.1 q99.2.2.2 hq101) rfl rfl ?_
  refine iq_G_go (k := 1) (σ' := (2295, [some (.ref 0), some (.ref 1), some (.ref 76), some (.ref 114), some (.int x4), some (.int q99.1), some (.int q100.1), none], [.int q99.1, .int q101], (iq_sh l, q100.2, q99.2.2.1, q99.2.2.2))) (fun _ => rfl) ?_
  rcases iq_ite h with ⟨hc_, h⟩ | ⟨hc_, h⟩
  · refine iq_G_pos (c := q101 = q99.1) (σ1 := (2300, [some (.ref 0), some (.ref 1), some (.ref 76), some (.ref 114), some (.int x4), some (.int q99.1), some (.int q100.1), none], [], (iq_sh l, q100.2, q99.2.2.1, q99.2.2.2))) (fun _ => rfl) hc_ ?_
    refine iq_G_go (k := 1) (σ' := (2302, [some (.ref 0), some (.ref 1), some (.ref 76), some (.ref 114), some (.int x4), some (.int q99.1), some (.int q100.1), none], [.int q99.1], (iq_sh l, q100.2, q99.2.2.1, q99.2.2.2))) (fun _ => rfl) ?_
    rcases iq_ite h with ⟨hc_, h⟩ | ⟨hc_, h⟩
    · refine iq_G_pos (c := ¬ q99.1 = 0) (σ1 := (2317, [some (.ref 0), some (.ref 1), some (.ref 76), some (.ref 114), some (.int x4), some (.int q99.1), some (.int q100.1), none], [], (iq_sh l, q100.2, q99.2.2.1, q99.2.2.2))) (fun _ => rfl) hc_ ?_
      refine iq_G_go (k := 1) (σ' := (2524, [some (.ref 0), some (.ref 1), some (.ref 76), some (.ref 114), some (.int x4), some (.int q99.1), some (.int q100.1), none], [], (iq_sh l, q100.2, q99.2.2.1, q99.2.2.2))) (fun _ => rfl) ?_
      refine iq_G_go (k := 2) (σ' := (23, [some (.ref 0), some (.ref 1), some (.ref 76), some (.ref 114), some (.int (x4 + (6 : Int32))), some (.int q99.1), some (.int q100.1), none], [], (iq_sh l, q100.2, q99.2.2.1, q99.2.2.2))) (fun _ => rfl) ?_
      cases h
      exact iq_G_fg (L := [some (.ref 0), some (.ref 1), some (.ref 76), some (.ref 114), some (.int (x4 + (6 : Int32))), none, none, none]) (And.intro rfl (And.intro rfl (And.intro rfl (And.intro rfl (And.intro rfl trivial))))) (hc ((x4 + (6 : Int32)), q100.2, q99.2.2.1, q99.2.2.2) rfl)
    · refine iq_G_neg (c := ¬ q99.1 = 0) (σ1 := (2305, [some (.ref 0), some (.ref 1), some (.ref 76), some (.ref 114), some (.int x4), some (.int q99.1), some (.int q100.1), none], [], (iq_sh l, q100.2, q99.2.2.1, q99.2.2.2))) (fun _ => rfl) hc_ ?_
      refine iq_G_go (k := 2) (σ' := (2307, [some (.ref 0), some (.ref 1), some (.ref 76), some (.ref 114), some (.int x4), some (.int q99.1), some (.int q100.1), none], [.int (0 : Int32), .ref 114], (iq_sh l, q100.2, q99.2.2.1, q99.2.2.2))) (fun _ => rfl) ?_
      refine iq_G_go (k := 1) (σ' := (2308, [some (.ref 0), some (.ref 1), some (.ref 76), some (.ref 114), some (.int x4), some (.int q99.1), some (.int q100.1), none], [.long (q99.2.2.1 114 0)], (iq_sh l, q100.2, q99.2.2.1, q99.2.2.2))) (fun _ => rfl) ?_
      refine iq_G_go (k := 3) (σ' := (2312, [some (.ref 0), some (.ref 1), some (.ref 76), some (.ref 114), some (.int x4), some (.int q99.1), some (.int q100.1), none], [.int (lg_cmp (q99.2.2.1 114 0) (Int32.toInt64 q100.1))], (iq_sh l, q100.2, q99.2.2.1, q99.2.2.2))) (fun _ => rfl) ?_
      rcases iq_ite h with ⟨hc_, h⟩ | ⟨hc_, h⟩
      · refine iq_G_pos (c := (lg_cmp (q99.2.2.1 114 0) (Int32.toInt64 q100.1)) = 0) (σ1 := (2317, [some (.ref 0), some (.ref 1), some (.ref 76), some (.ref 114), some (.int x4), some (.int q99.1), some (.int q100.1), none], [], (iq_sh l, q100.2, q99.2.2.1, q99.2.2.2))) (fun _ => rfl) hc_ ?_
        refine iq_G_go (k := 1) (σ' := (2524, [some (.ref 0), some (.ref 1), some (.ref 76), some (.ref 114), some (.int x4), some (.int q99.1), some (.int q100.1), none], [], (iq_sh l, q100.2, q99.2.2.1, q99.2.2.2))) (fun _ => rfl) ?_
        refine iq_G_go (k := 2) (σ' := (23, [some (.ref 0), some (.ref 1), some (.ref 76), some (.ref 114), some (.int (x4 + (6 : Int32))), some (.int q99.1), some (.int q100.1), none], [], (iq_sh l, q100.2, q99.2.2.1, q99.2.2.2))) (fun _ => rfl) ?_
        cases h
        exact iq_G_fg (L := [some (.ref 0), some (.ref 1), some (.ref 76), some (.ref 114), some (.int (x4 + (6 : Int32))), none, none, none]) (And.intro rfl (And.intro rfl (And.intro rfl (And.intro rfl (And.intro rfl trivial))))) (hc ((x4 + (6 : Int32)), q100.2, q99.2.2.1, q99.2.2.2) rfl)
      · refine iq_G_neg (c := (lg_cmp (q99.2.2.1 114 0) (Int32.toInt64 q100.1)) = 0) (σ1 := (2315, [some (.ref 0), some (.ref 1), some (.ref 76), some (.ref 114), some (.int x4), some (.int q99.1), some (.int q100.1), none], [], (iq_sh l, q100.2, q99.2.2.1, q99.2.2.2))) (fun _ => rfl) hc_ ?_
        refine iq_G_go (k := 1) (σ' := (2316, [some (.ref 0), some (.ref 1), some (.ref 76), some (.ref 114), some (.int x4), some (.int q99.1), some (.int q100.1), none], [.int (0 : Int32)], (iq_sh l, q100.2, q99.2.2.1, q99.2.2.2))) (fun _ => rfl) ?_
        cases h
        obtain rfl := (hx _ rfl).2 _ rfl
        exact iq_G_ret (fun _ => rfl)
  · refine iq_G_neg (c := q101 = q99.1) (σ1 := (2298, [some (.ref 0), some (.ref 1), some (.ref 76), some (.ref 114), some (.int x4), some (.int q99.1), some (.int q100.1), none], [], (iq_sh l, q100.2, q99.2.2.1, q99.2.2.2))) (fun _ => rfl) hc_ ?_
    refine iq_G_go (k := 1) (σ' := (2299, [some (.ref 0), some (.ref 1), some (.ref 76), some (.ref 114), some (.int x4), some (.int q99.1), some (.int q100.1), none], [.int (0 : Int32)], (iq_sh l, q100.2, q99.2.2.1, q99.2.2.2))) (fun _ => rfl) ?_
    cases h
    obtain rfl := (hx _ rfl).2 _ rfl
    exact iq_G_ret (fun _ => rfl)
set_option maxRecDepth 100000 in
set_option maxHeartbeats 4000000 in
theorem zL_law_2320_ok (l : Nat)  (x4 : Int32) (I : iq_I) (J : iq_J) (X : iq_X)  {q : (Int32 × iq_I × iq_J × iq_X) ⊕ ((iq_I × iq_J × iq_X) ⊕ (Int32 × iq_I × iq_J × iq_X))} (h : zL_law_2320 l x4 I J X = some q) (r : iq_R × iq_M) (hc : ∀ v, q = .inl v → iq_Gg 72 357 (23, [some (.ref 0), some (.ref 1), some (.ref 76), some (.ref 114), some (.int v.1), none, none, none], [], (iq_sh l, v.2.1, v.2.2.1, v.2.2.2)) r) (hx : ∀ w, q = .inr w → (∀ a, w = .inl a → iq_Gg 72 357 (2530, [none, none, none, none, none, none, none, none], [], (iq_sh l, a.1, a.2.1, a.2.2)) r) ∧ (∀ b, w = .inr b → r = (.inl (some (.int b.1)), (iq_sh l, b.2.1, b.2.2.1, b.2.2.2)))) : iq_Gg 72 357 (2320, [some (.ref 0), some (.ref 1), some (.ref 76), some (.ref 114), some (.int x4), none, none, none], [], (iq_sh l, I, J, X)) r := by
  unfold zL_law_2320 at h
  refine iq_G_go (k := 5) (σ' := (2326, [some (.ref 0), some (.ref 1), some (.ref 76), some (.ref 114), some (.int x4), none, none, none], [.int (x4 + (1 : Int32)), .ref 0, .ref 1], (iq_sh l, I, J, X))) (fun _ => rfl) ?_
  obtain ⟨hc_, h⟩ := iq_itn h
  refine iq_G_pos (c := iq_in (x4 + (1 : Int32)) l) (σ1 := (2327, [some (.ref 0), some (.ref 1), some (.ref 76), some (.ref 114), some (.int x4), none, none, none], [.int (I 0 (Int32.toNatClampNeg (x4 + (1 : Int32)))), .ref 1], (iq_sh l, I, J, X))) (fun _ => rfl) hc_ ?_
  refine iq_G_go (k := 1) (σ' := (2328, [some (.ref 0), some (.ref 1), some (.ref 76), some (.ref 114), some (.int x4), none, none, none], [.ref 114, .int (I 0 (Int32.toNatClampNeg (x4 + (1 : Int32)))), .ref 1], (iq_sh l, I, J, X))) (fun _ => rfl) ?_
  obtain ⟨q102, hq102, h⟩ := iq_bnd h
  refine iq_G_call (σ' := (2331, [some (.ref 0), some (.ref 1), some (.ref 76), some (.ref 114), some (.int x4), none, none, none], [.int q102.1], (iq_sh l, I, q102.2.1, q102.2.2))) (fun _ => rfl) (zL_about_ok l (I 0 (Int32.toNatClampNeg (x4 + (1 : Int32)))) I J X hq102) rfl rfl ?_
  refine iq_G_go (k := 6) (σ' := (2339, [some (.ref 0), some (.ref 1), some (.ref 76), some (.ref 114), some (.int x4), some (.int q102.1), none, none], [.int (x4 + (1 : Int32)), .ref 0, .ref 76], (iq_sh l, I, q102.2.1, q102.2.2))) (fun _ => rfl) ?_
  obtain ⟨hc_, h⟩ := iq_itn h
  refine iq_G_pos (c := iq_in (x4 + (1 : Int32)) l) (σ1 := (2340, [some (.ref 0), some (.ref 1), some (.ref 76), some (.ref 114), some (.int x4), some (.int q102.1), none, none], [.int (I 0 (Int32.toNatClampNeg (x4 + (1 : Int32)))), .ref 76], (iq_sh l, I, q102.2.1, q102.2.2))) (fun _ => rfl) hc_ ?_
  obtain ⟨q103, hq103, h⟩ := iq_bnd h
  refine iq_G_call (σ' := (2343, [some (.ref 0), some (.ref 1), some (.ref 76), some (.ref 114), some (.int x4), some (.int q102.1), none, none], [.int q103.1], (iq_sh l, q103.2, q102.2.1, q102.2.2))) (fun _ => rfl) (zM_about_ok l (I 0 (Int32.toNatClampNeg (x4 + (1 : Int32)))) I q102.2.1 q102.2.2 hq103) rfl rfl ?_
  refine iq_G_go (k := 2) (σ' := (2346, [some (.ref 0), some (.ref 1), some (.ref 76), some (.ref 114), some (.int x4), some (.int q102.1), some (.int q103.1), none], [.ref 76], (iq_sh l, q103.2, q102.2.1, q102.2.2))) (fun _ => rfl) ?_
  obtain ⟨q104, hq104, h⟩ := iq_bnd h
  refine iq_G_call (σ' := (2349, [some (.ref 0), some (.ref 1), some (.ref 76), some (.ref 114), some (.int x4), some (.int q102.1), some (.int q103.1), none], [.int q104], (iq_sh l, q103.2, q102.2.1, q102.2.2))) (fun _ => rfl) (zM_thrown_ok l  q103.2 q102.2.1 q102.2.2 hq104) rfl rfl ?_
  refine iq_G_go (k := 1) (σ' := (2351, [some (.ref 0), some (.ref 1), some (.ref 76), some (.ref 114), some (.int x4), some (.int q102.1), some (.int q103.1), none], [.int q102.1, .int q104], (iq_sh l, q103.2, q102.2.1, q102.2.2))) (fun _ => rfl) ?_
  rcases iq_ite h with ⟨hc_, h⟩ | ⟨hc_, h⟩
  · refine iq_G_pos (c := q104 = q102.1) (σ1 := (2356, [some (.ref 0), some (.ref 1), some (.ref 76), some (.ref 114), some (.int x4), some (.int q102.1), some (.int q103.1), none], [], (iq_sh l, q103.2, q102.2.1, q102.2.2))) (fun _ => rfl) hc_ ?_
    refine iq_G_go (k := 1) (σ' := (2358, [some (.ref 0), some (.ref 1), some (.ref 76), some (.ref 114), some (.int x4), some (.int q102.1), some (.int q103.1), none], [.int q102.1], (iq_sh l, q103.2, q102.2.1, q102.2.2))) (fun _ => rfl) ?_
    rcases iq_ite h with ⟨hc_, h⟩ | ⟨hc_, h⟩
    · refine iq_G_pos (c := ¬ q102.1 = 0) (σ1 := (2373, [some (.ref 0), some (.ref 1), some (.ref 76), some (.ref 114), some (.int x4), some (.int q102.1), some (.int q103.1), none], [], (iq_sh l, q103.2, q102.2.1, q102.2.2))) (fun _ => rfl) hc_ ?_
      refine iq_G_go (k := 1) (σ' := (2524, [some (.ref 0), some (.ref 1), some (.ref 76), some (.ref 114), some (.int x4), some (.int q102.1), some (.int q103.1), none], [], (iq_sh l, q103.2, q102.2.1, q102.2.2))) (fun _ => rfl) ?_
      refine iq_G_go (k := 2) (σ' := (23, [some (.ref 0), some (.ref 1), some (.ref 76), some (.ref 114), some (.int (x4 + (6 : Int32))), some (.int q102.1), some (.int q103.1), none], [], (iq_sh l, q103.2, q102.2.1, q102.2.2))) (fun _ => rfl) ?_
      cases h
      exact iq_G_fg (L := [some (.ref 0), some (.ref 1), some (.ref 76), some (.ref 114), some (.int (x4 + (6 : Int32))), none, none, none]) (And.intro rfl (And.intro rfl (And.intro rfl (And.intro rfl (And.intro rfl trivial))))) (hc ((x4 + (6 : Int32)), q103.2, q102.2.1, q102.2.2) rfl)
    · refine iq_G_neg (c := ¬ q102.1 = 0) (σ1 := (2361, [some (.ref 0), some (.ref 1), some (.ref 76), some (.ref 114), some (.int x4), some (.int q102.1), some (.int q103.1), none], [], (iq_sh l, q103.2, q102.2.1, q102.2.2))) (fun _ => rfl) hc_ ?_
      refine iq_G_go (k := 2) (σ' := (2363, [some (.ref 0), some (.ref 1), some (.ref 76), some (.ref 114), some (.int x4), some (.int q102.1), some (.int q103.1), none], [.int (0 : Int32), .ref 114], (iq_sh l, q103.2, q102.2.1, q102.2.2))) (fun _ => rfl) ?_
      refine iq_G_go (k := 1) (σ' := (2364, [some (.ref 0), some (.ref 1), some (.ref 76), some (.ref 114), some (.int x4), some (.int q102.1), some (.int q103.1), none], [.long (q102.2.1 114 0)], (iq_sh l, q103.2, q102.2.1, q102.2.2))) (fun _ => rfl) ?_
      refine iq_G_go (k := 3) (σ' := (2368, [some (.ref 0), some (.ref 1), some (.ref 76), some (.ref 114), some (.int x4), some (.int q102.1), some (.int q103.1), none], [.int (lg_cmp (q102.2.1 114 0) (Int32.toInt64 q103.1))], (iq_sh l, q103.2, q102.2.1, q102.2.2))) (fun _ => rfl) ?_
      rcases iq_ite h with ⟨hc_, h⟩ | ⟨hc_, h⟩
      · refine iq_G_pos (c := (lg_cmp (q102.2.1 114 0) (Int32.toInt64 q103.1)) = 0) (σ1 := (2373, [some (.ref 0), some (.ref 1), some (.ref 76), some (.ref 114), some (.int x4), some (.int q102.1), some (.int q103.1), none], [], (iq_sh l, q103.2, q102.2.1, q102.2.2))) (fun _ => rfl) hc_ ?_
        refine iq_G_go (k := 1) (σ' := (2524, [some (.ref 0), some (.ref 1), some (.ref 76), some (.ref 114), some (.int x4), some (.int q102.1), some (.int q103.1), none], [], (iq_sh l, q103.2, q102.2.1, q102.2.2))) (fun _ => rfl) ?_
        refine iq_G_go (k := 2) (σ' := (23, [some (.ref 0), some (.ref 1), some (.ref 76), some (.ref 114), some (.int (x4 + (6 : Int32))), some (.int q102.1), some (.int q103.1), none], [], (iq_sh l, q103.2, q102.2.1, q102.2.2))) (fun _ => rfl) ?_
        cases h
        exact iq_G_fg (L := [some (.ref 0), some (.ref 1), some (.ref 76), some (.ref 114), some (.int (x4 + (6 : Int32))), none, none, none]) (And.intro rfl (And.intro rfl (And.intro rfl (And.intro rfl (And.intro rfl trivial))))) (hc ((x4 + (6 : Int32)), q103.2, q102.2.1, q102.2.2) rfl)
      · refine iq_G_neg (c := (lg_cmp (q102.2.1 114 0) (Int32.toInt64 q103.1)) = 0) (σ1 := (2371, [some (.ref 0), some (.ref 1), some (.ref 76), some (.ref 114), some (.int x4), some (.int q102.1), some (.int q103.1), none], [], (iq_sh l, q103.2, q102.2.1, q102.2.2))) (fun _ => rfl) hc_ ?_
        refine iq_G_go (k := 1) (σ' := (2372, [some (.ref 0), some (.ref 1), some (.ref 76), some (.ref 114), some (.int x4), some (.int q102.1), some (.int q103.1), none], [.int (0 : Int32)], (iq_sh l, q103.2, q102.2.1, q102.2.2))) (fun _ => rfl) ?_
        cases h
        obtain rfl := (hx _ rfl).2 _ rfl
        exact iq_G_ret (fun _ => rfl)
  · refine iq_G_neg (c := q104 = q102.1) (σ1 := (2354, [some (.ref 0), some (.ref 1), some (.ref 76), some (.ref 114), some (.int x4), some (.int q102.1), some (.int q103.1), none], [], (iq_sh l, q103.2, q102.2.1, q102.2.2))) (fun _ => rfl) hc_ ?_
    refine iq_G_go (k := 1) (σ' := (2355, [some (.ref 0), some (.ref 1), some (.ref 76), some (.ref 114), some (.int x4), some (.int q102.1), some (.int q103.1), none], [.int (0 : Int32)], (iq_sh l, q103.2, q102.2.1, q102.2.2))) (fun _ => rfl) ?_
    cases h
    obtain rfl := (hx _ rfl).2 _ rfl
    exact iq_G_ret (fun _ => rfl)
set_option maxRecDepth 100000 in
set_option maxHeartbeats 4000000 in
theorem zL_law_2376_ok (l : Nat)  (x4 : Int32) (I : iq_I) (J : iq_J) (X : iq_X)  {q : (Int32 × iq_I × iq_J × iq_X) ⊕ ((iq_I × iq_J × iq_X) ⊕ (Int32 × iq_I × iq_J × iq_X))} (h : zL_law_2376 l x4 I J X = some q) (r : iq_R × iq_M) (hc : ∀ v, q = .inl v → iq_Gg 72 357 (23, [some (.ref 0), some (.ref 1), some (.ref 76), some (.ref 114), some (.int v.1), none, none, none], [], (iq_sh l, v.2.1, v.2.2.1, v.2.2.2)) r) (hx : ∀ w, q = .inr w → (∀ a, w = .inl a → iq_Gg 72 357 (2530, [none, none, none, none, none, none, none, none], [], (iq_sh l, a.1, a.2.1, a.2.2)) r) ∧ (∀ b, w = .inr b → r = (.inl (some (.int b.1)), (iq_sh l, b.2.1, b.2.2.1, b.2.2.2)))) : iq_Gg 72 357 (2376, [some (.ref 0), some (.ref 1), some (.ref 76), some (.ref 114), some (.int x4), none, none, none], [], (iq_sh l, I, J, X)) r := by
  unfold zL_law_2376 at h
  refine iq_G_go (k := 5) (σ' := (2382, [some (.ref 0), some (.ref 1), some (.ref 76), some (.ref 114), some (.int x4), none, none, none], [.int (x4 + (1 : Int32)), .ref 0, .ref 1], (iq_sh l, I, J, X))) (fun _ => rfl) ?_
  obtain ⟨hc_, h⟩ := iq_itn h
  refine iq_G_pos (c := iq_in (x4 + (1 : Int32)) l) (σ1 := (2383, [some (.ref 0), some (.ref 1), some (.ref 76), some (.ref 114), some (.int x4), none, none, none], [.int (I 0 (Int32.toNatClampNeg (x4 + (1 : Int32)))), .ref 1], (iq_sh l, I, J, X))) (fun _ => rfl) hc_ ?_
  refine iq_G_go (k := 4) (σ' := (2388, [some (.ref 0), some (.ref 1), some (.ref 76), some (.ref 114), some (.int x4), none, none, none], [.int (x4 + (2 : Int32)), .ref 0, .int (I 0 (Int32.toNatClampNeg (x4 + (1 : Int32)))), .ref 1], (iq_sh l, I, J, X))) (fun _ => rfl) ?_
  obtain ⟨hc_, h⟩ := iq_itn h
  refine iq_G_pos (c := iq_in (x4 + (2 : Int32)) l) (σ1 := (2389, [some (.ref 0), some (.ref 1), some (.ref 76), some (.ref 114), some (.int x4), none, none, none], [.int (I 0 (Int32.toNatClampNeg (x4 + (2 : Int32)))), .int (I 0 (Int32.toNatClampNeg (x4 + (1 : Int32)))), .ref 1], (iq_sh l, I, J, X))) (fun _ => rfl) hc_ ?_
  refine iq_G_go (k := 1) (σ' := (2390, [some (.ref 0), some (.ref 1), some (.ref 76), some (.ref 114), some (.int x4), none, none, none], [.ref 114, .int (I 0 (Int32.toNatClampNeg (x4 + (2 : Int32)))), .int (I 0 (Int32.toNatClampNeg (x4 + (1 : Int32)))), .ref 1], (iq_sh l, I, J, X))) (fun _ => rfl) ?_
  obtain ⟨q105, hq105, h⟩ := iq_bnd h
  refine iq_G_call (σ' := (2393, [some (.ref 0), some (.ref 1), some (.ref 76), some (.ref 114), some (.int x4), none, none, none], [.int q105.1], (iq_sh l, I, q105.2.1, q105.2.2))) (fun _ => rfl) (zL_often_ok l (I 0 (Int32.toNatClampNeg (x4 + (1 : Int32)))) (I 0 (Int32.toNatClampNeg (x4 + (2 : Int32)))) I J X hq105) rfl rfl ?_
  refine iq_G_go (k := 6) (σ' := (2401, [some (.ref 0), some (.ref 1), some (.ref 76), some (.ref 114), some (.int x4), some (.int q105.1), none, none], [.int (x4 + (1 : Int32)), .ref 0, .ref 76], (iq_sh l, I, q105.2.1, q105.2.2))) (fun _ => rfl) ?_
  obtain ⟨hc_, h⟩ := iq_itn h
  refine iq_G_pos (c := iq_in (x4 + (1 : Int32)) l) (σ1 := (2402, [some (.ref 0), some (.ref 1), some (.ref 76), some (.ref 114), some (.int x4), some (.int q105.1), none, none], [.int (I 0 (Int32.toNatClampNeg (x4 + (1 : Int32)))), .ref 76], (iq_sh l, I, q105.2.1, q105.2.2))) (fun _ => rfl) hc_ ?_
  refine iq_G_go (k := 4) (σ' := (2407, [some (.ref 0), some (.ref 1), some (.ref 76), some (.ref 114), some (.int x4), some (.int q105.1), none, none], [.int (x4 + (2 : Int32)), .ref 0, .int (I 0 (Int32.toNatClampNeg (x4 + (1 : Int32)))), .ref 76], (iq_sh l, I, q105.2.1, q105.2.2))) (fun _ => rfl) ?_
  obtain ⟨hc_, h⟩ := iq_itn h
  refine iq_G_pos (c := iq_in (x4 + (2 : Int32)) l) (σ1 := (2408, [some (.ref 0), some (.ref 1), some (.ref 76), some (.ref 114), some (.int x4), some (.int q105.1), none, none], [.int (I 0 (Int32.toNatClampNeg (x4 + (2 : Int32)))), .int (I 0 (Int32.toNatClampNeg (x4 + (1 : Int32)))), .ref 76], (iq_sh l, I, q105.2.1, q105.2.2))) (fun _ => rfl) hc_ ?_
  obtain ⟨q106, hq106, h⟩ := iq_bnd h
  refine iq_G_call (σ' := (2411, [some (.ref 0), some (.ref 1), some (.ref 76), some (.ref 114), some (.int x4), some (.int q105.1), none, none], [.int q106.1], (iq_sh l, q106.2, q105.2.1, q105.2.2))) (fun _ => rfl) (zM_often_ok l (I 0 (Int32.toNatClampNeg (x4 + (1 : Int32)))) (I 0 (Int32.toNatClampNeg (x4 + (2 : Int32)))) I q105.2.1 q105.2.2 hq106) rfl rfl ?_
  refine iq_G_go (k := 2) (σ' := (2414, [some (.ref 0), some (.ref 1), some (.ref 76), some (.ref 114), some (.int x4), some (.int q105.1), some (.int q106.1), none], [.ref 76], (iq_sh l, q106.2, q105.2.1, q105.2.2))) (fun _ => rfl) ?_
  obtain ⟨q107, hq107, h⟩ := iq_bnd h
  refine iq_G_call (σ' := (2417, [some (.ref 0), some (.ref 1), some (.ref 76), some (.ref 114), some (.int x4), some (.int q105.1), some (.int q106.1), none], [.int q107], (iq_sh l, q106.2, q105.2.1, q105.2.2))) (fun _ => rfl) (zM_thrown_ok l  q106.2 q105.2.1 q105.2.2 hq107) rfl rfl ?_
  refine iq_G_go (k := 1) (σ' := (2419, [some (.ref 0), some (.ref 1), some (.ref 76), some (.ref 114), some (.int x4), some (.int q105.1), some (.int q106.1), none], [.int q105.1, .int q107], (iq_sh l, q106.2, q105.2.1, q105.2.2))) (fun _ => rfl) ?_
  rcases iq_ite h with ⟨hc_, h⟩ | ⟨hc_, h⟩
  · refine iq_G_pos (c := q107 = q105.1) (σ1 := (2424, [some (.ref 0), some (.ref 1), some (.ref 76), some (.ref 114), some (.int x4), some (.int q105.1), some (.int q106.1), none], [], (iq_sh l, q106.2, q105.2.1, q105.2.2))) (fun _ => rfl) hc_ ?_
    refine iq_G_go (k := 1) (σ' := (2426, [some (.ref 0), some (.ref 1), some (.ref 76), some (.ref 114), some (.int x4), some (.int q105.1), some (.int q106.1), none], [.int q105.1], (iq_sh l, q106.2, q105.2.1, q105.2.2))) (fun _ => rfl) ?_
    rcases iq_ite h with ⟨hc_, h⟩ | ⟨hc_, h⟩
    · refine iq_G_pos (c := ¬ q105.1 = 0) (σ1 := (2441, [some (.ref 0), some (.ref 1), some (.ref 76), some (.ref 114), some (.int x4), some (.int q105.1), some (.int q106.1), none], [], (iq_sh l, q106.2, q105.2.1, q105.2.2))) (fun _ => rfl) hc_ ?_
      refine iq_G_go (k := 1) (σ' := (2524, [some (.ref 0), some (.ref 1), some (.ref 76), some (.ref 114), some (.int x4), some (.int q105.1), some (.int q106.1), none], [], (iq_sh l, q106.2, q105.2.1, q105.2.2))) (fun _ => rfl) ?_
      refine iq_G_go (k := 2) (σ' := (23, [some (.ref 0), some (.ref 1), some (.ref 76), some (.ref 114), some (.int (x4 + (6 : Int32))), some (.int q105.1), some (.int q106.1), none], [], (iq_sh l, q106.2, q105.2.1, q105.2.2))) (fun _ => rfl) ?_
      cases h
      exact iq_G_fg (L := [some (.ref 0), some (.ref 1), some (.ref 76), some (.ref 114), some (.int (x4 + (6 : Int32))), none, none, none]) (And.intro rfl (And.intro rfl (And.intro rfl (And.intro rfl (And.intro rfl trivial))))) (hc ((x4 + (6 : Int32)), q106.2, q105.2.1, q105.2.2) rfl)
    · refine iq_G_neg (c := ¬ q105.1 = 0) (σ1 := (2429, [some (.ref 0), some (.ref 1), some (.ref 76), some (.ref 114), some (.int x4), some (.int q105.1), some (.int q106.1), none], [], (iq_sh l, q106.2, q105.2.1, q105.2.2))) (fun _ => rfl) hc_ ?_
      refine iq_G_go (k := 2) (σ' := (2431, [some (.ref 0), some (.ref 1), some (.ref 76), some (.ref 114), some (.int x4), some (.int q105.1), some (.int q106.1), none], [.int (0 : Int32), .ref 114], (iq_sh l, q106.2, q105.2.1, q105.2.2))) (fun _ => rfl) ?_
      refine iq_G_go (k := 1) (σ' := (2432, [some (.ref 0), some (.ref 1), some (.ref 76), some (.ref 114), some (.int x4), some (.int q105.1), some (.int q106.1), none], [.long (q105.2.1 114 0)], (iq_sh l, q106.2, q105.2.1, q105.2.2))) (fun _ => rfl) ?_
      refine iq_G_go (k := 3) (σ' := (2436, [some (.ref 0), some (.ref 1), some (.ref 76), some (.ref 114), some (.int x4), some (.int q105.1), some (.int q106.1), none], [.int (lg_cmp (q105.2.1 114 0) (Int32.toInt64 q106.1))], (iq_sh l, q106.2, q105.2.1, q105.2.2))) (fun _ => rfl) ?_
      rcases iq_ite h with ⟨hc_, h⟩ | ⟨hc_, h⟩
      · refine iq_G_pos (c := (lg_cmp (q105.2.1 114 0) (Int32.toInt64 q106.1)) = 0) (σ1 := (2441, [some (.ref 0), some (.ref 1), some (.ref 76), some (.ref 114), some (.int x4), some (.int q105.1), some (.int q106.1), none], [], (iq_sh l, q106.2, q105.2.1, q105.2.2))) (fun _ => rfl) hc_ ?_
        refine iq_G_go (k := 1) (σ' := (2524, [some (.ref 0), some (.ref 1), some (.ref 76), some (.ref 114), some (.int x4), some (.int q105.1), some (.int q106.1), none], [], (iq_sh l, q106.2, q105.2.1, q105.2.2))) (fun _ => rfl) ?_
        refine iq_G_go (k := 2) (σ' := (23, [some (.ref 0), some (.ref 1), some (.ref 76), some (.ref 114), some (.int (x4 + (6 : Int32))), some (.int q105.1), some (.int q106.1), none], [], (iq_sh l, q106.2, q105.2.1, q105.2.2))) (fun _ => rfl) ?_
        cases h
        exact iq_G_fg (L := [some (.ref 0), some (.ref 1), some (.ref 76), some (.ref 114), some (.int (x4 + (6 : Int32))), none, none, none]) (And.intro rfl (And.intro rfl (And.intro rfl (And.intro rfl (And.intro rfl trivial))))) (hc ((x4 + (6 : Int32)), q106.2, q105.2.1, q105.2.2) rfl)
      · refine iq_G_neg (c := (lg_cmp (q105.2.1 114 0) (Int32.toInt64 q106.1)) = 0) (σ1 := (2439, [some (.ref 0), some (.ref 1), some (.ref 76), some (.ref 114), some (.int x4), some (.int q105.1), some (.int q106.1), none], [], (iq_sh l, q106.2, q105.2.1, q105.2.2))) (fun _ => rfl) hc_ ?_
        refine iq_G_go (k := 1) (σ' := (2440, [some (.ref 0), some (.ref 1), some (.ref 76), some (.ref 114), some (.int x4), some (.int q105.1), some (.int q106.1), none], [.int (0 : Int32)], (iq_sh l, q106.2, q105.2.1, q105.2.2))) (fun _ => rfl) ?_
        cases h
        obtain rfl := (hx _ rfl).2 _ rfl
        exact iq_G_ret (fun _ => rfl)
  · refine iq_G_neg (c := q107 = q105.1) (σ1 := (2422, [some (.ref 0), some (.ref 1), some (.ref 76), some (.ref 114), some (.int x4), some (.int q105.1), some (.int q106.1), none], [], (iq_sh l, q106.2, q105.2.1, q105.2.2))) (fun _ => rfl) hc_ ?_
    refine iq_G_go (k := 1) (σ' := (2423, [some (.ref 0), some (.ref 1), some (.ref 76), some (.ref 114), some (.int x4), some (.int q105.1), some (.int q106.1), none], [.int (0 : Int32)], (iq_sh l, q106.2, q105.2.1, q105.2.2))) (fun _ => rfl) ?_
    cases h
    obtain rfl := (hx _ rfl).2 _ rfl
    exact iq_G_ret (fun _ => rfl)
set_option maxRecDepth 100000 in
theorem zL_law_2444_ok (l : Nat)  (x4 : Int32) (I : iq_I) (J : iq_J) (X : iq_X)  {q : (Int32 × iq_I × iq_J × iq_X) ⊕ ((iq_I × iq_J × iq_X) ⊕ (Int32 × iq_I × iq_J × iq_X))} (h : zL_law_2444 l x4 I J X = some q) (r : iq_R × iq_M) (hc : ∀ v, q = .inl v → iq_Gg 72 357 (23, [some (.ref 0), some (.ref 1), some (.ref 76), some (.ref 114), some (.int v.1), none, none, none], [], (iq_sh l, v.2.1, v.2.2.1, v.2.2.2)) r) (hx : ∀ w, q = .inr w → (∀ a, w = .inl a → iq_Gg 72 357 (2530, [none, none, none, none, none, none, none, none], [], (iq_sh l, a.1, a.2.1, a.2.2)) r) ∧ (∀ b, w = .inr b → r = (.inl (some (.int b.1)), (iq_sh l, b.2.1, b.2.2.1, b.2.2.2)))) : iq_Gg 72 357 (2444, [some (.ref 0), some (.ref 1), some (.ref 76), some (.ref 114), some (.int x4), none, none, none], [], (iq_sh l, I, J, X)) r := by
  unfold zL_law_2444 at h
  refine iq_G_go (k := 5) (σ' := (2450, [some (.ref 0), some (.ref 1), some (.ref 76), some (.ref 114), some (.int x4), none, none, none], [.int (x4 + (1 : Int32)), .ref 0, .ref 1], (iq_sh l, I, J, X))) (fun _ => rfl) ?_
  obtain ⟨hc_, h⟩ := iq_itn h
  refine iq_G_pos (c := iq_in (x4 + (1 : Int32)) l) (σ1 := (2451, [some (.ref 0), some (.ref 1), some (.ref 76), some (.ref 114), some (.int x4), none, none, none], [.int (I 0 (Int32.toNatClampNeg (x4 + (1 : Int32)))), .ref 1], (iq_sh l, I, J, X))) (fun _ => rfl) hc_ ?_
  refine iq_G_go (k := 1) (σ' := (2452, [some (.ref 0), some (.ref 1), some (.ref 76), some (.ref 114), some (.int x4), none, none, none], [.ref 114, .int (I 0 (Int32.toNatClampNeg (x4 + (1 : Int32)))), .ref 1], (iq_sh l, I, J, X))) (fun _ => rfl) ?_
  obtain ⟨q108, hq108, h⟩ := iq_bnd h
  refine iq_G_call (σ' := (2455, [some (.ref 0), some (.ref 1), some (.ref 76), some (.ref 114), some (.int x4), none, none, none], [.int q108.1], (iq_sh l, I, q108.2.1, q108.2.2))) (fun _ => rfl) (zL_cost_ok l (I 0 (Int32.toNatClampNeg (x4 + (1 : Int32)))) I J X hq108) rfl rfl ?_
  refine iq_G_go (k := 6) (σ' := (2463, [some (.ref 0), some (.ref 1), some (.ref 76), some (.ref 114), some (.int x4), some (.int q108.1), none, none], [.int (x4 + (1 : Int32)), .ref 0, .ref 76], (iq_sh l, I, q108.2.1, q108.2.2))) (fun _ => rfl) ?_
  obtain ⟨hc_, h⟩ := iq_itn h
  refine iq_G_pos (c := iq_in (x4 + (1 : Int32)) l) (σ1 := (2464, [some (.ref 0), some (.ref 1), some (.ref 76), some (.ref 114), some (.int x4), some (.int q108.1), none, none], [.int (I 0 (Int32.toNatClampNeg (x4 + (1 : Int32)))), .ref 76], (iq_sh l, I, q108.2.1, q108.2.2))) (fun _ => rfl) hc_ ?_
  obtain ⟨q109, hq109, h⟩ := iq_bnd h
  refine iq_G_call (σ' := (2467, [some (.ref 0), some (.ref 1), some (.ref 76), some (.ref 114), some (.int x4), some (.int q108.1), none, none], [.int q109.1], (iq_sh l, q109.2, q108.2.1, q108.2.2))) (fun _ => rfl) (zM_cost_ok l (I 0 (Int32.toNatClampNeg (x4 + (1 : Int32)))) I q108.2.1 q108.2.2 hq109) rfl rfl ?_
  refine iq_G_go (k := 2) (σ' := (2470, [some (.ref 0), some (.ref 1), some (.ref 76), some (.ref 114), some (.int x4), some (.int q108.1), some (.int q109.1), none], [.ref 76], (iq_sh l, q109.2, q108.2.1, q108.2.2))) (fun _ => rfl) ?_
  obtain ⟨q110, hq110, h⟩ := iq_bnd h
  refine iq_G_call (σ' := (2473, [some (.ref 0), some (.ref 1), some (.ref 76), some (.ref 114), some (.int x4), some (.int q108.1), some (.int q109.1), none], [.int q110], (iq_sh l, q109.2, q108.2.1, q108.2.2))) (fun _ => rfl) (zM_thrown_ok l  q109.2 q108.2.1 q108.2.2 hq110) rfl rfl ?_
  refine iq_G_go (k := 1) (σ' := (2475, [some (.ref 0), some (.ref 1), some (.ref 76), some (.ref 114), some (.int x4), some (.int q108.1), some (.int q109.1), none], [.int q108.1, .int q110], (iq_sh l, q109.2, q108.2.1, q108.2.2))) (fun _ => rfl) ?_
  rcases iq_ite h with ⟨hc_, h⟩ | ⟨hc_, h⟩
  · refine iq_G_pos (c := q110 = q108.1) (σ1 := (2480, [some (.ref 0), some (.ref 1), some (.ref 76), some (.ref 114), some (.int x4), some (.int q108.1), some (.int q109.1), none], [], (iq_sh l, q109.2, q108.2.1, q108.2.2))) (fun _ => rfl) hc_ ?_
    refine iq_G_go (k := 1) (σ' := (2482, [some (.ref 0), some (.ref 1), some (.ref 76), some (.ref 114), some (.int x4), some (.int q108.1), some (.int q109.1), none], [.int q108.1], (iq_sh l, q109.2, q108.2.1, q108.2.2))) (fun _ => rfl) ?_
    rcases iq_ite h with ⟨hc_, h⟩ | ⟨hc_, h⟩
    · refine iq_G_pos (c := ¬ q108.1 = 0) (σ1 := (2497, [some (.ref 0), some (.ref 1), some (.ref 76), some (.ref 114), some (.int x4), some (.int q108.1), some (.int q109.1), none], [], (iq_sh l, q109.2, q108.2.1, q108.2.2))) (fun _ => rfl) hc_ ?_
      refine iq_G_go (k := 3) (σ' := (23, [some (.ref 0), some (.ref 1), some (.ref 76), some (.ref 114), some (.int (x4 + (6 : Int32))), some (.int q108.1), some (.int q109.1), none], [], (iq_sh l, q109.2, q108.2.1, q108.2.2))) (fun _ => rfl) ?_
      cases h
      exact iq_G_fg (L := [some (.ref 0), some (.ref 1), some (.ref 76), some (.ref 114), some (.int (x4 + (6 : Int32))), none, none, none]) (And.intro rfl (And.intro rfl (And.intro rfl (And.intro rfl (And.intro rfl trivial))))) (hc ((x4 + (6 : Int32)), q109.2, q108.2.1, q108.2.2) rfl)
    · refine iq_G_neg (c := ¬ q108.1 = 0) (σ1 := (2485, [some (.ref 0), some (.ref 1), some (.ref 76), some (.ref 114), some (.int x4), some (.int q108.1), some (.int q109.1), none], [], (iq_sh l, q109.2, q108.2.1, q108.2.2))) (fun _ => rfl) hc_ ?_
      refine iq_G_go (k := 2) (σ' := (2487, [some (.ref 0), some (.ref 1), some (.ref 76), some (.ref 114), some (.int x4), some (.int q108.1), some (.int q109.1), none], [.int (0 : Int32), .ref 114], (iq_sh l, q109.2, q108.2.1, q108.2.2))) (fun _ => rfl) ?_
      refine iq_G_go (k := 1) (σ' := (2488, [some (.ref 0), some (.ref 1), some (.ref 76), some (.ref 114), some (.int x4), some (.int q108.1), some (.int q109.1), none], [.long (q108.2.1 114 0)], (iq_sh l, q109.2, q108.2.1, q108.2.2))) (fun _ => rfl) ?_
      refine iq_G_go (k := 3) (σ' := (2492, [some (.ref 0), some (.ref 1), some (.ref 76), some (.ref 114), some (.int x4), some (.int q108.1), some (.int q109.1), none], [.int (lg_cmp (q108.2.1 114 0) (Int32.toInt64 q109.1))], (iq_sh l, q109.2, q108.2.1, q108.2.2))) (fun _ => rfl) ?_
      rcases iq_ite h with ⟨hc_, h⟩ | ⟨hc_, h⟩
      · refine iq_G_pos (c := (lg_cmp (q108.2.1 114 0) (Int32.toInt64 q109.1)) = 0) (σ1 := (2497, [some (.ref 0), some (.ref 1), some (.ref 76), some (.ref 114), some (.int x4), some (.int q108.1), some (.int q109.1), none], [], (iq_sh l, q109.2, q108.2.1, q108.2.2))) (fun _ => rfl) hc_ ?_
        refine iq_G_go (k := 3) (σ' := (23, [some (.ref 0), some (.ref 1), some (.ref 76), some (.ref 114), some (.int (x4 + (6 : Int32))), some (.int q108.1), some (.int q109.1), none], [], (iq_sh l, q109.2, q108.2.1, q108.2.2))) (fun _ => rfl) ?_
        cases h
        exact iq_G_fg (L := [some (.ref 0), some (.ref 1), some (.ref 76), some (.ref 114), some (.int (x4 + (6 : Int32))), none, none, none]) (And.intro rfl (And.intro rfl (And.intro rfl (And.intro rfl (And.intro rfl trivial))))) (hc ((x4 + (6 : Int32)), q109.2, q108.2.1, q108.2.2) rfl)
      · refine iq_G_neg (c := (lg_cmp (q108.2.1 114 0) (Int32.toInt64 q109.1)) = 0) (σ1 := (2495, [some (.ref 0), some (.ref 1), some (.ref 76), some (.ref 114), some (.int x4), some (.int q108.1), some (.int q109.1), none], [], (iq_sh l, q109.2, q108.2.1, q108.2.2))) (fun _ => rfl) hc_ ?_
        refine iq_G_go (k := 1) (σ' := (2496, [some (.ref 0), some (.ref 1), some (.ref 76), some (.ref 114), some (.int x4), some (.int q108.1), some (.int q109.1), none], [.int (0 : Int32)], (iq_sh l, q109.2, q108.2.1, q108.2.2))) (fun _ => rfl) ?_
        cases h
        obtain rfl := (hx _ rfl).2 _ rfl
        exact iq_G_ret (fun _ => rfl)
  · refine iq_G_neg (c := q110 = q108.1) (σ1 := (2478, [some (.ref 0), some (.ref 1), some (.ref 76), some (.ref 114), some (.int x4), some (.int q108.1), some (.int q109.1), none], [], (iq_sh l, q109.2, q108.2.1, q108.2.2))) (fun _ => rfl) hc_ ?_
    refine iq_G_go (k := 1) (σ' := (2479, [some (.ref 0), some (.ref 1), some (.ref 76), some (.ref 114), some (.int x4), some (.int q108.1), some (.int q109.1), none], [.int (0 : Int32)], (iq_sh l, q109.2, q108.2.1, q108.2.2))) (fun _ => rfl) ?_
    cases h
    obtain rfl := (hx _ rfl).2 _ rfl
    exact iq_G_ret (fun _ => rfl)
set_option maxRecDepth 100000 in
theorem zL_law_2500_ok (l : Nat)  (x4 : Int32) (I : iq_I) (J : iq_J) (X : iq_X)  {q : (Int32 × iq_I × iq_J × iq_X) ⊕ ((iq_I × iq_J × iq_X) ⊕ (Int32 × iq_I × iq_J × iq_X))} (h : zL_law_2500 l x4 I J X = some q) (r : iq_R × iq_M) (hc : ∀ v, q = .inl v → iq_Gg 72 357 (23, [some (.ref 0), some (.ref 1), some (.ref 76), some (.ref 114), some (.int v.1), none, none, none], [], (iq_sh l, v.2.1, v.2.2.1, v.2.2.2)) r) (hx : ∀ w, q = .inr w → (∀ a, w = .inl a → iq_Gg 72 357 (2530, [none, none, none, none, none, none, none, none], [], (iq_sh l, a.1, a.2.1, a.2.2)) r) ∧ (∀ b, w = .inr b → r = (.inl (some (.int b.1)), (iq_sh l, b.2.1, b.2.2.1, b.2.2.2)))) : iq_Gg 72 357 (2500, [some (.ref 0), some (.ref 1), some (.ref 76), some (.ref 114), some (.int x4), none, none, none], [], (iq_sh l, I, J, X)) r := by
  unfold zL_law_2500 at h
  refine iq_G_go (k := 1) (σ' := (2501, [some (.ref 0), some (.ref 1), some (.ref 76), some (.ref 114), some (.int x4), none, none, none], [.ref 1], (iq_sh l, I, J, X))) (fun _ => rfl) ?_
  obtain ⟨q111, hq111, h⟩ := iq_bnd h
  refine iq_G_call (σ' := (2504, [some (.ref 0), some (.ref 1), some (.ref 76), some (.ref 114), some (.int x4), none, none, none], [], (iq_sh l, q111, J, X))) (fun _ => rfl) (zO_image_ok l  I J X hq111) rfl rfl ?_
  refine iq_G_go (k := 1) (σ' := (2505, [some (.ref 0), some (.ref 1), some (.ref 76), some (.ref 114), some (.int x4), none, none, none], [.ref 76], (iq_sh l, q111, J, X))) (fun _ => rfl) ?_
  obtain ⟨q112, hq112, h⟩ := iq_bnd h
  refine iq_G_call (σ' := (2508, [some (.ref 0), some (.ref 1), some (.ref 76), some (.ref 114), some (.int x4), none, none, none], [], (iq_sh l, q112, J, X))) (fun _ => rfl) (zM_image_ok l  q111 J X hq112) rfl rfl ?_
  refine iq_G_go (k := 3) (σ' := (23, [some (.ref 0), some (.ref 1), some (.ref 76), some (.ref 114), some (.int (x4 + (6 : Int32))), none, none, none], [], (iq_sh l, q112, J, X))) (fun _ => rfl) ?_
  cases h
  exact iq_G_fg (L := [some (.ref 0), some (.ref 1), some (.ref 76), some (.ref 114), some (.int (x4 + (6 : Int32))), none, none, none]) (And.intro rfl (And.intro rfl (And.intro rfl (And.intro rfl (And.intro rfl trivial))))) (hc ((x4 + (6 : Int32)), q112, J, X) rfl)
set_option maxRecDepth 100000 in
theorem zL_law_2511_ok (l : Nat)  (x4 : Int32) (I : iq_I) (J : iq_J) (X : iq_X)  {q : (Int32 × iq_I × iq_J × iq_X) ⊕ ((iq_I × iq_J × iq_X) ⊕ (Int32 × iq_I × iq_J × iq_X))} (h : zL_law_2511 l x4 I J X = some q) (r : iq_R × iq_M) (hc : ∀ v, q = .inl v → iq_Gg 72 357 (23, [some (.ref 0), some (.ref 1), some (.ref 76), some (.ref 114), some (.int v.1), none, none, none], [], (iq_sh l, v.2.1, v.2.2.1, v.2.2.2)) r) (hx : ∀ w, q = .inr w → (∀ a, w = .inl a → iq_Gg 72 357 (2530, [none, none, none, none, none, none, none, none], [], (iq_sh l, a.1, a.2.1, a.2.2)) r) ∧ (∀ b, w = .inr b → r = (.inl (some (.int b.1)), (iq_sh l, b.2.1, b.2.2.1, b.2.2.2)))) : iq_Gg 72 357 (2511, [some (.ref 0), some (.ref 1), some (.ref 76), some (.ref 114), some (.int x4), none, none, none], [], (iq_sh l, I, J, X)) r := by
  unfold zL_law_2511 at h
  refine iq_G_go (k := 1) (σ' := (2512, [some (.ref 0), some (.ref 1), some (.ref 76), some (.ref 114), some (.int x4), none, none, none], [.ref 1], (iq_sh l, I, J, X))) (fun _ => rfl) ?_
  obtain ⟨q113, hq113, h⟩ := iq_bnd h
  refine iq_G_call (σ' := (2515, [some (.ref 0), some (.ref 1), some (.ref 76), some (.ref 114), some (.int x4), none, none, none], [.int q113.1], (iq_sh l, q113.2, J, X))) (fun _ => rfl) (zO_restore_ok l  I J X hq113) rfl rfl ?_
  refine iq_G_go (k := 1) (σ' := (2516, [some (.ref 0), some (.ref 1), some (.ref 76), some (.ref 114), some (.int x4), none, none, none], [.ref 76, .int q113.1], (iq_sh l, q113.2, J, X))) (fun _ => rfl) ?_
  obtain ⟨q114, hq114, h⟩ := iq_bnd h
  refine iq_G_call (σ' := (2519, [some (.ref 0), some (.ref 1), some (.ref 76), some (.ref 114), some (.int x4), none, none, none], [.int q114.1, .int q113.1], (iq_sh l, q114.2, J, X))) (fun _ => rfl) (zM_restore_ok l  q113.2 J X hq114) rfl rfl ?_
  rcases iq_ite h with ⟨hc_, h⟩ | ⟨hc_, h⟩
  · refine iq_G_pos (c := q113.1 = q114.1) (σ1 := (2524, [some (.ref 0), some (.ref 1), some (.ref 76), some (.ref 114), some (.int x4), none, none, none], [], (iq_sh l, q114.2, J, X))) (fun _ => rfl) hc_ ?_
    refine iq_G_go (k := 2) (σ' := (23, [some (.ref 0), some (.ref 1), some (.ref 76), some (.ref 114), some (.int (x4 + (6 : Int32))), none, none, none], [], (iq_sh l, q114.2, J, X))) (fun _ => rfl) ?_
    cases h
    exact iq_G_fg (L := [some (.ref 0), some (.ref 1), some (.ref 76), some (.ref 114), some (.int (x4 + (6 : Int32))), none, none, none]) (And.intro rfl (And.intro rfl (And.intro rfl (And.intro rfl (And.intro rfl trivial))))) (hc ((x4 + (6 : Int32)), q114.2, J, X) rfl)
  · refine iq_G_neg (c := q113.1 = q114.1) (σ1 := (2522, [some (.ref 0), some (.ref 1), some (.ref 76), some (.ref 114), some (.int x4), none, none, none], [], (iq_sh l, q114.2, J, X))) (fun _ => rfl) hc_ ?_
    refine iq_G_go (k := 1) (σ' := (2523, [some (.ref 0), some (.ref 1), some (.ref 76), some (.ref 114), some (.int x4), none, none, none], [.int (0 : Int32)], (iq_sh l, q114.2, J, X))) (fun _ => rfl) ?_
    cases h
    obtain rfl := (hx _ rfl).2 _ rfl
    exact iq_G_ret (fun _ => rfl)
set_option maxRecDepth 100000 in
theorem zL_law_l23_bok (l : Nat)    (x4 : Int32) (I : iq_I) (J : iq_J) (X : iq_X) {q : (Int32 × iq_I × iq_J × iq_X) ⊕ ((iq_I × iq_J × iq_X) ⊕ (Int32 × iq_I × iq_J × iq_X))} (h : zL_law_l23_b l  x4 I J X = some q) (r : iq_R × iq_M) (hc : ∀ v, q = .inl v → iq_Gg 72 357 (23, [some (.ref 0), some (.ref 1), some (.ref 76), some (.ref 114), some (.int v.1), none, none, none], [], (iq_sh l, v.2.1, v.2.2.1, v.2.2.2)) r) (hx : ∀ w, q = .inr w → (∀ a, w = .inl a → iq_Gg 72 357 (2530, [none, none, none, none, none, none, none, none], [], (iq_sh l, a.1, a.2.1, a.2.2)) r) ∧ (∀ b, w = .inr b → r = (.inl (some (.int b.1)), (iq_sh l, b.2.1, b.2.2.1, b.2.2.2)))) : iq_Gg 72 357 (23, [some (.ref 0), some (.ref 1), some (.ref 76), some (.ref 114), some (.int x4), none, none, none], [], (iq_sh l, I, J, X)) r := by
  unfold zL_law_l23_b at h
  refine iq_G_go (k := 5) (σ' := (30, [some (.ref 0), some (.ref 1), some (.ref 76), some (.ref 114), some (.int x4), none, none, none], [.int ((Int32.ofNat l) - (6 : Int32)), .int x4], (iq_sh l, I, J, X))) (fun _ => rfl) ?_
  rcases iq_ite h with ⟨hc_, h⟩ | ⟨hc_, h⟩
  · have st_ : ∀ (z_0 : Int32) (r_ : iq_R × iq_M), z_0 < x4 → iq_Gg 72 357 (2530, [some (.ref 0), some (.ref 1), some (.ref 76), some (.ref 114), some (.int x4), none, none, none], [], (iq_sh l, I, J, X)) r_ → iq_Gg 72 357 (30, [some (.ref 0), some (.ref 1), some (.ref 76), some (.ref 114), some (.int x4), none, none, none], [.int z_0, .int x4], (iq_sh l, I, J, X)) r_ := fun z_0 r_ hc_ hg_ => iq_G_pos (c := z_0 < x4) (σ1 := (2530, [some (.ref 0), some (.ref 1), some (.ref 76), some (.ref 114), some (.int x4), none, none, none], [], (iq_sh l, I, J, X))) (fun _ => rfl) hc_ hg_
    refine st_ ((Int32.ofNat l) - (6 : Int32)) _ hc_ ?_
    clear st_
    cases h
    exact iq_G_fg (L := [none, none, none, none, none, none, none, none]) trivial ((hx (.inl (I, J, X)) rfl).1 (I, J, X) rfl)
  · have st_ : ∀ (z_0 : Int32) (r_ : iq_R × iq_M), ¬ (z_0 < x4) → iq_Gg 72 357 (33, [some (.ref 0), some (.ref 1), some (.ref 76), some (.ref 114), some (.int x4), none, none, none], [], (iq_sh l, I, J, X)) r_ → iq_Gg 72 357 (30, [some (.ref 0), some (.ref 1), some (.ref 76), some (.ref 114), some (.int x4), none, none, none], [.int z_0, .int x4], (iq_sh l, I, J, X)) r_ := fun z_0 r_ hc_ hg_ => iq_G_neg (c := z_0 < x4) (σ1 := (33, [some (.ref 0), some (.ref 1), some (.ref 76), some (.ref 114), some (.int x4), none, none, none], [], (iq_sh l, I, J, X))) (fun _ => rfl) hc_ hg_
    refine st_ ((Int32.ofNat l) - (6 : Int32)) _ hc_ ?_
    clear st_
    refine iq_G_go (k := 2) (σ' := (36, [some (.ref 0), some (.ref 1), some (.ref 76), some (.ref 114), some (.int x4), none, none, none], [.int x4, .ref 0], (iq_sh l, I, J, X))) (fun _ => rfl) ?_
    obtain ⟨hc_, h⟩ := iq_itn h
    refine iq_G_pos (c := iq_in x4 l) (σ1 := (37, [some (.ref 0), some (.ref 1), some (.ref 76), some (.ref 114), some (.int x4), none, none, none], [.int (I 0 (Int32.toNatClampNeg x4))], (iq_sh l, I, J, X))) (fun _ => rfl) hc_ ?_
    refine iq_G_go (k := 2) (σ' := (40, [some (.ref 0), some (.ref 1), some (.ref 76), some (.ref 114), some (.int x4), none, none, none], [.int ((I 0 (Int32.toNatClampNeg x4)) &&& (63 : Int32))], (iq_sh l, I, J, X))) (fun _ => rfl) ?_
    rcases iq_ite h with ⟨e0, h⟩ | ⟨n0, h⟩
    · refine iq_G_sw (σ' := (220, [some (.ref 0), some (.ref 1), some (.ref 76), some (.ref 114), some (.int x4), none, none, none], [], (iq_sh l, I, J, X))) (fun _ => rfl) (by rw [e0]; rfl) ?_
      exact iq_G_fg (L := [some (.ref 0), some (.ref 1), some (.ref 76), some (.ref 114), some (.int x4), none, none, none]) (And.intro rfl (And.intro rfl (And.intro rfl (And.intro rfl (And.intro rfl trivial))))) (zL_law_220_ok l x4 I J X  h r hc hx)
    rcases iq_ite h with ⟨e1, h⟩ | ⟨n1, h⟩
    · refine iq_G_sw (σ' := (293, [some (.ref 0), some (.ref 1), some (.ref 76), some (.ref 114), some (.int x4), none, none, none], [], (iq_sh l, I, J, X))) (fun _ => rfl) (by rw [e1]; rfl) ?_
      exact iq_G_fg (L := [some (.ref 0), some (.ref 1), some (.ref 76), some (.ref 114), some (.int x4), none, none, none]) (And.intro rfl (And.intro rfl (And.intro rfl (And.intro rfl (And.intro rfl trivial))))) (zL_law_293_ok l x4 I J X  h r hc hx)
    rcases iq_ite h with ⟨e2, h⟩ | ⟨n2, h⟩
    · refine iq_G_sw (σ' := (349, [some (.ref 0), some (.ref 1), some (.ref 76), some (.ref 114), some (.int x4), none, none, none], [], (iq_sh l, I, J, X))) (fun _ => rfl) (by rw [e2]; rfl) ?_
      exact iq_G_fg (L := [some (.ref 0), some (.ref 1), some (.ref 76), some (.ref 114), some (.int x4), none, none, none]) (And.intro rfl (And.intro rfl (And.intro rfl (And.intro rfl (And.intro rfl trivial))))) (zL_law_349_ok l x4 I J X  h r hc hx)
    rcases iq_ite h with ⟨e3, h⟩ | ⟨n3, h⟩
    · refine iq_G_sw (σ' := (362, [some (.ref 0), some (.ref 1), some (.ref 76), some (.ref 114), some (.int x4), none, none, none], [], (iq_sh l, I, J, X))) (fun _ => rfl) (by rw [e3]; rfl) ?_
      exact iq_G_fg (L := [some (.ref 0), some (.ref 1), some (.ref 76), some (.ref 114), some (.int x4), none, none, none]) (And.intro rfl (And.intro rfl (And.intro rfl (And.intro rfl (And.intro rfl trivial))))) (zL_law_362_ok l x4 I J X  h r hc hx)
    rcases iq_ite h with ⟨e4, h⟩ | ⟨n4, h⟩
    · refine iq_G_sw (σ' := (418, [some (.ref 0), some (.ref 1), some (.ref 76), some (.ref 114), some (.int x4), none, none, none], [], (iq_sh l, I, J, X))) (fun _ => rfl) (by rw [e4]; rfl) ?_
      exact iq_G_fg (L := [some (.ref 0), some (.ref 1), some (.ref 76), some (.ref 114), some (.int x4), none, none, none]) (And.intro rfl (And.intro rfl (And.intro rfl (And.intro rfl (And.intro rfl trivial))))) (zL_law_418_ok l x4 I J X  h r hc hx)
    rcases iq_ite h with ⟨e5, h⟩ | ⟨n5, h⟩
    · refine iq_G_sw (σ' := (486, [some (.ref 0), some (.ref 1), some (.ref 76), some (.ref 114), some (.int x4), none, none, none], [], (iq_sh l, I, J, X))) (fun _ => rfl) (by rw [e5]; rfl) ?_
      exact iq_G_fg (L := [some (.ref 0), some (.ref 1), some (.ref 76), some (.ref 114), some (.int x4), none, none, none]) (And.intro rfl (And.intro rfl (And.intro rfl (And.intro rfl (And.intro rfl trivial))))) (zL_law_486_ok l x4 I J X  h r hc hx)
    rcases iq_ite h with ⟨e6, h⟩ | ⟨n6, h⟩
    · refine iq_G_sw (σ' := (542, [some (.ref 0), some (.ref 1), some (.ref 76), some (.ref 114), some (.int x4), none, none, none], [], (iq_sh l, I, J, X))) (fun _ => rfl) (by rw [e6]; rfl) ?_
      exact iq_G_fg (L := [some (.ref 0), some (.ref 1), some (.ref 76), some (.ref 114), some (.int x4), none, none, none]) (And.intro rfl (And.intro rfl (And.intro rfl (And.intro rfl (And.intro rfl trivial))))) (zL_law_542_ok l x4 I J X  h r hc hx)
    rcases iq_ite h with ⟨e7, h⟩ | ⟨n7, h⟩
    · refine iq_G_sw (σ' := (610, [some (.ref 0), some (.ref 1), some (.ref 76), some (.ref 114), some (.int x4), none, none, none], [], (iq_sh l, I, J, X))) (fun _ => rfl) (by rw [e7]; rfl) ?_
      exact iq_G_fg (L := [some (.ref 0), some (.ref 1), some (.ref 76), some (.ref 114), some (.int x4), none, none, none]) (And.intro rfl (And.intro rfl (And.intro rfl (And.intro rfl (And.intro rfl trivial))))) (zL_law_610_ok l x4 I J X  h r hc hx)
    rcases iq_ite h with ⟨e8, h⟩ | ⟨n8, h⟩
    · refine iq_G_sw (σ' := (678, [some (.ref 0), some (.ref 1), some (.ref 76), some (.ref 114), some (.int x4), none, none, none], [], (iq_sh l, I, J, X))) (fun _ => rfl) (by rw [e8]; rfl) ?_
      exact iq_G_fg (L := [some (.ref 0), some (.ref 1), some (.ref 76), some (.ref 114), some (.int x4), none, none, none]) (And.intro rfl (And.intro rfl (And.intro rfl (And.intro rfl (And.intro rfl trivial))))) (zL_law_678_ok l x4 I J X  h r hc hx)
    rcases iq_ite h with ⟨e9, h⟩ | ⟨n9, h⟩
    · refine iq_G_sw (σ' := (734, [some (.ref 0), some (.ref 1), some (.ref 76), some (.ref 114), some (.int x4), none, none, none], [], (iq_sh l, I, J, X))) (fun _ => rfl) (by rw [e9]; rfl) ?_
      exact iq_G_fg (L := [some (.ref 0), some (.ref 1), some (.ref 76), some (.ref 114), some (.int x4), none, none, none]) (And.intro rfl (And.intro rfl (And.intro rfl (And.intro rfl (And.intro rfl trivial))))) (zL_law_734_ok l x4 I J X  h r hc hx)
    rcases iq_ite h with ⟨e10, h⟩ | ⟨n10, h⟩
    · refine iq_G_sw (σ' := (802, [some (.ref 0), some (.ref 1), some (.ref 76), some (.ref 114), some (.int x4), none, none, none], [], (iq_sh l, I, J, X))) (fun _ => rfl) (by rw [e10]; rfl) ?_
      exact iq_G_fg (L := [some (.ref 0), some (.ref 1), some (.ref 76), some (.ref 114), some (.int x4), none, none, none]) (And.intro rfl (And.intro rfl (And.intro rfl (And.intro rfl (And.intro rfl trivial))))) (zL_law_802_ok l x4 I J X  h r hc hx)
    rcases iq_ite h with ⟨e11, h⟩ | ⟨n11, h⟩
    · refine iq_G_sw (σ' := (882, [some (.ref 0), some (.ref 1), some (.ref 76), some (.ref 114), some (.int x4), none, none, none], [], (iq_sh l, I, J, X))) (fun _ => rfl) (by rw [e11]; rfl) ?_
      exact iq_G_fg (L := [some (.ref 0), some (.ref 1), some (.ref 76), some (.ref 114), some (.int x4), none, none, none]) (And.intro rfl (And.intro rfl (And.intro rfl (And.intro rfl (And.intro rfl trivial))))) (zL_law_882_ok l x4 I J X  h r hc hx)
    rcases iq_ite h with ⟨e12, h⟩ | ⟨n12, h⟩
    · refine iq_G_sw (σ' := (950, [some (.ref 0), some (.ref 1), some (.ref 76), some (.ref 114), some (.int x4), none, none, none], [], (iq_sh l, I, J, X))) (fun _ => rfl) (by rw [e12]; rfl) ?_
      exact iq_G_fg (L := [some (.ref 0), some (.ref 1), some (.ref 76), some (.ref 114), some (.int x4), none, none, none]) (And.intro rfl (And.intro rfl (And.intro rfl (And.intro rfl (And.intro rfl trivial))))) (zL_law_950_ok l x4 I J X  h r hc hx)
    rcases iq_ite h with ⟨e13, h⟩ | ⟨n13, h⟩
    · refine iq_G_sw (σ' := (963, [some (.ref 0), some (.ref 1), some (.ref 76), some (.ref 114), some (.int x4), none, none, none], [], (iq_sh l, I, J, X))) (fun _ => rfl) (by rw [e13]; rfl) ?_
      exact iq_G_fg (L := [some (.ref 0), some (.ref 1), some (.ref 76), some (.ref 114), some (.int x4), none, none, none]) (And.intro rfl (And.intro rfl (And.intro rfl (And.intro rfl (And.intro rfl trivial))))) (zL_law_963_ok l x4 I J X  h r hc hx)
    rcases iq_ite h with ⟨e14, h⟩ | ⟨n14, h⟩
    · refine iq_G_sw (σ' := (976, [some (.ref 0), some (.ref 1), some (.ref 76), some (.ref 114), some (.int x4), none, none, none], [], (iq_sh l, I, J, X))) (fun _ => rfl) (by rw [e14]; rfl) ?_
      exact iq_G_fg (L := [some (.ref 0), some (.ref 1), some (.ref 76), some (.ref 114), some (.int x4), none, none, none]) (And.intro rfl (And.intro rfl (And.intro rfl (And.intro rfl (And.intro rfl trivial))))) (zL_law_976_ok l x4 I J X  h r hc hx)
    rcases iq_ite h with ⟨e15, h⟩ | ⟨n15, h⟩
    · refine iq_G_sw (σ' := (1032, [some (.ref 0), some (.ref 1), some (.ref 76), some (.ref 114), some (.int x4), none, none, none], [], (iq_sh l, I, J, X))) (fun _ => rfl) (by rw [e15]; rfl) ?_
      exact iq_G_fg (L := [some (.ref 0), some (.ref 1), some (.ref 76), some (.ref 114), some (.int x4), none, none, none]) (And.intro rfl (And.intro rfl (And.intro rfl (And.intro rfl (And.intro rfl trivial))))) (zL_law_1032_ok l x4 I J X  h r hc hx)
    rcases iq_ite h with ⟨e16, h⟩ | ⟨n16, h⟩
    · refine iq_G_sw (σ' := (1100, [some (.ref 0), some (.ref 1), some (.ref 76), some (.ref 114), some (.int x4), none, none, none], [], (iq_sh l, I, J, X))) (fun _ => rfl) (by rw [e16]; rfl) ?_
      exact iq_G_fg (L := [some (.ref 0), some (.ref 1), some (.ref 76), some (.ref 114), some (.int x4), none, none, none]) (And.intro rfl (And.intro rfl (And.intro rfl (And.intro rfl (And.intro rfl trivial))))) (zL_law_1100_ok l x4 I J X  h r hc hx)
    rcases iq_ite h with ⟨e17, h⟩ | ⟨n17, h⟩
    · refine iq_G_sw (σ' := (1156, [some (.ref 0), some (.ref 1), some (.ref 76), some (.ref 114), some (.int x4), none, none, none], [], (iq_sh l, I, J, X))) (fun _ => rfl) (by rw [e17]; rfl) ?_
      exact iq_G_fg (L := [some (.ref 0), some (.ref 1), some (.ref 76), some (.ref 114), some (.int x4), none, none, none]) (And.intro rfl (And.intro rfl (And.intro rfl (And.intro rfl (And.intro rfl trivial))))) (zL_law_1156_ok l x4 I J X  h r hc hx)
    rcases iq_ite h with ⟨e18, h⟩ | ⟨n18, h⟩
    · refine iq_G_sw (σ' := (1251, [some (.ref 0), some (.ref 1), some (.ref 76), some (.ref 114), some (.int x4), none, none, none], [], (iq_sh l, I, J, X))) (fun _ => rfl) (by rw [e18]; rfl) ?_
      exact iq_G_fg (L := [some (.ref 0), some (.ref 1), some (.ref 76), some (.ref 114), some (.int x4), none, none, none]) (And.intro rfl (And.intro rfl (And.intro rfl (And.intro rfl (And.intro rfl trivial))))) (zL_law_1251_ok l x4 I J X  h r hc hx)
    rcases iq_ite h with ⟨e19, h⟩ | ⟨n19, h⟩
    · refine iq_G_sw (σ' := (1319, [some (.ref 0), some (.ref 1), some (.ref 76), some (.ref 114), some (.int x4), none, none, none], [], (iq_sh l, I, J, X))) (fun _ => rfl) (by rw [e19]; rfl) ?_
      exact iq_G_fg (L := [some (.ref 0), some (.ref 1), some (.ref 76), some (.ref 114), some (.int x4), none, none, none]) (And.intro rfl (And.intro rfl (And.intro rfl (And.intro rfl (And.intro rfl trivial))))) (zL_law_1319_ok l x4 I J X  h r hc hx)
    rcases iq_ite h with ⟨e20, h⟩ | ⟨n20, h⟩
    · refine iq_G_sw (σ' := (1399, [some (.ref 0), some (.ref 1), some (.ref 76), some (.ref 114), some (.int x4), none, none, none], [], (iq_sh l, I, J, X))) (fun _ => rfl) (by rw [e20]; rfl) ?_
      exact iq_G_fg (L := [some (.ref 0), some (.ref 1), some (.ref 76), some (.ref 114), some (.int x4), none, none, none]) (And.intro rfl (And.intro rfl (And.intro rfl (And.intro rfl (And.intro rfl trivial))))) (zL_law_1399_ok l x4 I J X  h r hc hx)
    rcases iq_ite h with ⟨e21, h⟩ | ⟨n21, h⟩
    · refine iq_G_sw (σ' := (1412, [some (.ref 0), some (.ref 1), some (.ref 76), some (.ref 114), some (.int x4), none, none, none], [], (iq_sh l, I, J, X))) (fun _ => rfl) (by rw [e21]; rfl) ?_
      exact iq_G_fg (L := [some (.ref 0), some (.ref 1), some (.ref 76), some (.ref 114), some (.int x4), none, none, none]) (And.intro rfl (And.intro rfl (And.intro rfl (And.intro rfl (And.intro rfl trivial))))) (zL_law_1412_ok l x4 I J X  h r hc hx)
    rcases iq_ite h with ⟨e22, h⟩ | ⟨n22, h⟩
    · refine iq_G_sw (σ' := (1504, [some (.ref 0), some (.ref 1), some (.ref 76), some (.ref 114), some (.int x4), none, none, none], [], (iq_sh l, I, J, X))) (fun _ => rfl) (by rw [e22]; rfl) ?_
      exact iq_G_fg (L := [some (.ref 0), some (.ref 1), some (.ref 76), some (.ref 114), some (.int x4), none, none, none]) (And.intro rfl (And.intro rfl (And.intro rfl (And.intro rfl (And.intro rfl trivial))))) (zL_law_1504_ok l x4 I J X  h r hc hx)
    rcases iq_ite h with ⟨e23, h⟩ | ⟨n23, h⟩
    · refine iq_G_sw (σ' := (1572, [some (.ref 0), some (.ref 1), some (.ref 76), some (.ref 114), some (.int x4), none, none, none], [], (iq_sh l, I, J, X))) (fun _ => rfl) (by rw [e23]; rfl) ?_
      exact iq_G_fg (L := [some (.ref 0), some (.ref 1), some (.ref 76), some (.ref 114), some (.int x4), none, none, none]) (And.intro rfl (And.intro rfl (And.intro rfl (And.intro rfl (And.intro rfl trivial))))) (zL_law_1572_ok l x4 I J X  h r hc hx)
    rcases iq_ite h with ⟨e24, h⟩ | ⟨n24, h⟩
    · refine iq_G_sw (σ' := (1583, [some (.ref 0), some (.ref 1), some (.ref 76), some (.ref 114), some (.int x4), none, none, none], [], (iq_sh l, I, J, X))) (fun _ => rfl) (by rw [e24]; rfl) ?_
      exact iq_G_fg (L := [some (.ref 0), some (.ref 1), some (.ref 76), some (.ref 114), some (.int x4), none, none, none]) (And.intro rfl (And.intro rfl (And.intro rfl (And.intro rfl (And.intro rfl trivial))))) (zL_law_1583_ok l x4 I J X  h r hc hx)
    rcases iq_ite h with ⟨e25, h⟩ | ⟨n25, h⟩
    · refine iq_G_sw (σ' := (1639, [some (.ref 0), some (.ref 1), some (.ref 76), some (.ref 114), some (.int x4), none, none, none], [], (iq_sh l, I, J, X))) (fun _ => rfl) (by rw [e25]; rfl) ?_
      exact iq_G_fg (L := [some (.ref 0), some (.ref 1), some (.ref 76), some (.ref 114), some (.int x4), none, none, none]) (And.intro rfl (And.intro rfl (And.intro rfl (And.intro rfl (And.intro rfl trivial))))) (zL_law_1639_ok l x4 I J X  h r hc hx)
    rcases iq_ite h with ⟨e26, h⟩ | ⟨n26, h⟩
    · refine iq_G_sw (σ' := (1695, [some (.ref 0), some (.ref 1), some (.ref 76), some (.ref 114), some (.int x4), none, none, none], [], (iq_sh l, I, J, X))) (fun _ => rfl) (by rw [e26]; rfl) ?_
      exact iq_G_fg (L := [some (.ref 0), some (.ref 1), some (.ref 76), some (.ref 114), some (.int x4), none, none, none]) (And.intro rfl (And.intro rfl (And.intro rfl (And.intro rfl (And.intro rfl trivial))))) (zL_law_1695_ok l x4 I J X  h r hc hx)
    rcases iq_ite h with ⟨e27, h⟩ | ⟨n27, h⟩
    · refine iq_G_sw (σ' := (1763, [some (.ref 0), some (.ref 1), some (.ref 76), some (.ref 114), some (.int x4), none, none, none], [], (iq_sh l, I, J, X))) (fun _ => rfl) (by rw [e27]; rfl) ?_
      exact iq_G_fg (L := [some (.ref 0), some (.ref 1), some (.ref 76), some (.ref 114), some (.int x4), none, none, none]) (And.intro rfl (And.intro rfl (And.intro rfl (And.intro rfl (And.intro rfl trivial))))) (zL_law_1763_ok l x4 I J X  h r hc hx)
    rcases iq_ite h with ⟨e28, h⟩ | ⟨n28, h⟩
    · refine iq_G_sw (σ' := (1776, [some (.ref 0), some (.ref 1), some (.ref 76), some (.ref 114), some (.int x4), none, none, none], [], (iq_sh l, I, J, X))) (fun _ => rfl) (by rw [e28]; rfl) ?_
      exact iq_G_fg (L := [some (.ref 0), some (.ref 1), some (.ref 76), some (.ref 114), some (.int x4), none, none, none]) (And.intro rfl (And.intro rfl (And.intro rfl (And.intro rfl (And.intro rfl trivial))))) (zL_law_1776_ok l x4 I J X  h r hc hx)
    rcases iq_ite h with ⟨e29, h⟩ | ⟨n29, h⟩
    · refine iq_G_sw (σ' := (1844, [some (.ref 0), some (.ref 1), some (.ref 76), some (.ref 114), some (.int x4), none, none, none], [], (iq_sh l, I, J, X))) (fun _ => rfl) (by rw [e29]; rfl) ?_
      exact iq_G_fg (L := [some (.ref 0), some (.ref 1), some (.ref 76), some (.ref 114), some (.int x4), none, none, none]) (And.intro rfl (And.intro rfl (And.intro rfl (And.intro rfl (And.intro rfl trivial))))) (zL_law_1844_ok l x4 I J X  h r hc hx)
    rcases iq_ite h with ⟨e30, h⟩ | ⟨n30, h⟩
    · refine iq_G_sw (σ' := (1924, [some (.ref 0), some (.ref 1), some (.ref 76), some (.ref 114), some (.int x4), none, none, none], [], (iq_sh l, I, J, X))) (fun _ => rfl) (by rw [e30]; rfl) ?_
      exact iq_G_fg (L := [some (.ref 0), some (.ref 1), some (.ref 76), some (.ref 114), some (.int x4), none, none, none]) (And.intro rfl (And.intro rfl (And.intro rfl (And.intro rfl (And.intro rfl trivial))))) (zL_law_1924_ok l x4 I J X  h r hc hx)
    rcases iq_ite h with ⟨e31, h⟩ | ⟨n31, h⟩
    · refine iq_G_sw (σ' := (1980, [some (.ref 0), some (.ref 1), some (.ref 76), some (.ref 114), some (.int x4), none, none, none], [], (iq_sh l, I, J, X))) (fun _ => rfl) (by rw [e31]; rfl) ?_
      exact iq_G_fg (L := [some (.ref 0), some (.ref 1), some (.ref 76), some (.ref 114), some (.int x4), none, none, none]) (And.intro rfl (And.intro rfl (And.intro rfl (And.intro rfl (And.intro rfl trivial))))) (zL_law_1980_ok l x4 I J X  h r hc hx)
    rcases iq_ite h with ⟨e32, h⟩ | ⟨n32, h⟩
    · refine iq_G_sw (σ' := (2036, [some (.ref 0), some (.ref 1), some (.ref 76), some (.ref 114), some (.int x4), none, none, none], [], (iq_sh l, I, J, X))) (fun _ => rfl) (by rw [e32]; rfl) ?_
      exact iq_G_fg (L := [some (.ref 0), some (.ref 1), some (.ref 76), some (.ref 114), some (.int x4), none, none, none]) (And.intro rfl (And.intro rfl (And.intro rfl (And.intro rfl (And.intro rfl trivial))))) (zL_law_2036_ok l x4 I J X  h r hc hx)
    rcases iq_ite h with ⟨e33, h⟩ | ⟨n33, h⟩
    · refine iq_G_sw (σ' := (2104, [some (.ref 0), some (.ref 1), some (.ref 76), some (.ref 114), some (.int x4), none, none, none], [], (iq_sh l, I, J, X))) (fun _ => rfl) (by rw [e33]; rfl) ?_
      exact iq_G_fg (L := [some (.ref 0), some (.ref 1), some (.ref 76), some (.ref 114), some (.int x4), none, none, none]) (And.intro rfl (And.intro rfl (And.intro rfl (And.intro rfl (And.intro rfl trivial))))) (zL_law_2104_ok l x4 I J X  h r hc hx)
    rcases iq_ite h with ⟨e34, h⟩ | ⟨n34, h⟩
    · refine iq_G_sw (σ' := (2172, [some (.ref 0), some (.ref 1), some (.ref 76), some (.ref 114), some (.int x4), none, none, none], [], (iq_sh l, I, J, X))) (fun _ => rfl) (by rw [e34]; rfl) ?_
      exact iq_G_fg (L := [some (.ref 0), some (.ref 1), some (.ref 76), some (.ref 114), some (.int x4), none, none, none]) (And.intro rfl (And.intro rfl (And.intro rfl (And.intro rfl (And.intro rfl trivial))))) (zL_law_2172_ok l x4 I J X  h r hc hx)
    rcases iq_ite h with ⟨e35, h⟩ | ⟨n35, h⟩
    · refine iq_G_sw (σ' := (2240, [some (.ref 0), some (.ref 1), some (.ref 76), some (.ref 114), some (.int x4), none, none, none], [], (iq_sh l, I, J, X))) (fun _ => rfl) (by rw [e35]; rfl) ?_
      exact iq_G_fg (L := [some (.ref 0), some (.ref 1), some (.ref 76), some (.ref 114), some (.int x4), none, none, none]) (And.intro rfl (And.intro rfl (And.intro rfl (And.intro rfl (And.intro rfl trivial))))) (zL_law_2240_ok l x4 I J X  h r hc hx)
    rcases iq_ite h with ⟨e36, h⟩ | ⟨n36, h⟩
    · refine iq_G_sw (σ' := (2320, [some (.ref 0), some (.ref 1), some (.ref 76), some (.ref 114), some (.int x4), none, none, none], [], (iq_sh l, I, J, X))) (fun _ => rfl) (by rw [e36]; rfl) ?_
      exact iq_G_fg (L := [some (.ref 0), some (.ref 1), some (.ref 76), some (.ref 114), some (.int x4), none, none, none]) (And.intro rfl (And.intro rfl (And.intro rfl (And.intro rfl (And.intro rfl trivial))))) (zL_law_2320_ok l x4 I J X  h r hc hx)
    rcases iq_ite h with ⟨e37, h⟩ | ⟨n37, h⟩
    · refine iq_G_sw (σ' := (2376, [some (.ref 0), some (.ref 1), some (.ref 76), some (.ref 114), some (.int x4), none, none, none], [], (iq_sh l, I, J, X))) (fun _ => rfl) (by rw [e37]; rfl) ?_
      exact iq_G_fg (L := [some (.ref 0), some (.ref 1), some (.ref 76), some (.ref 114), some (.int x4), none, none, none]) (And.intro rfl (And.intro rfl (And.intro rfl (And.intro rfl (And.intro rfl trivial))))) (zL_law_2376_ok l x4 I J X  h r hc hx)
    rcases iq_ite h with ⟨e38, h⟩ | ⟨n38, h⟩
    · refine iq_G_sw (σ' := (2444, [some (.ref 0), some (.ref 1), some (.ref 76), some (.ref 114), some (.int x4), none, none, none], [], (iq_sh l, I, J, X))) (fun _ => rfl) (by rw [e38]; rfl) ?_
      exact iq_G_fg (L := [some (.ref 0), some (.ref 1), some (.ref 76), some (.ref 114), some (.int x4), none, none, none]) (And.intro rfl (And.intro rfl (And.intro rfl (And.intro rfl (And.intro rfl trivial))))) (zL_law_2444_ok l x4 I J X  h r hc hx)
    rcases iq_ite h with ⟨e39, h⟩ | ⟨n39, h⟩
    · refine iq_G_sw (σ' := (2500, [some (.ref 0), some (.ref 1), some (.ref 76), some (.ref 114), some (.int x4), none, none, none], [], (iq_sh l, I, J, X))) (fun _ => rfl) (by rw [e39]; rfl) ?_
      exact iq_G_fg (L := [some (.ref 0), some (.ref 1), some (.ref 76), some (.ref 114), some (.int x4), none, none, none]) (And.intro rfl (And.intro rfl (And.intro rfl (And.intro rfl (And.intro rfl trivial))))) (zL_law_2500_ok l x4 I J X  h r hc hx)
    rcases iq_ite h with ⟨e40, h⟩ | ⟨n40, h⟩
    · refine iq_G_sw (σ' := (2511, [some (.ref 0), some (.ref 1), some (.ref 76), some (.ref 114), some (.int x4), none, none, none], [], (iq_sh l, I, J, X))) (fun _ => rfl) (by rw [e40]; rfl) ?_
      exact iq_G_fg (L := [some (.ref 0), some (.ref 1), some (.ref 76), some (.ref 114), some (.int x4), none, none, none]) (And.intro rfl (And.intro rfl (And.intro rfl (And.intro rfl (And.intro rfl trivial))))) (zL_law_2511_ok l x4 I J X  h r hc hx)
    refine iq_G_sw (σ' := (2524, [some (.ref 0), some (.ref 1), some (.ref 76), some (.ref 114), some (.int x4), none, none, none], [], (iq_sh l, I, J, X))) (fun _ => rfl) ((Eq.trans (ir_swn n0 rfl) (Eq.trans (ir_swn n1 rfl) (Eq.trans (ir_swn n2 rfl) (Eq.trans (ir_swn n3 rfl) (Eq.trans (ir_swn n4 rfl) (Eq.trans (ir_swn n5 rfl) (Eq.trans (ir_swn n6 rfl) (Eq.trans (ir_swn n7 rfl) (Eq.trans (ir_swn n8 rfl) (Eq.trans (ir_swn n9 rfl) (Eq.trans (ir_swn n10 rfl) (Eq.trans (ir_swn n11 rfl) (Eq.trans (ir_swn n12 rfl) (Eq.trans (ir_swn n13 rfl) (Eq.trans (ir_swn n14 rfl) (Eq.trans (ir_swn n15 rfl) (Eq.trans (ir_swn n16 rfl) (Eq.trans (ir_swn n17 rfl) (Eq.trans (ir_swn n18 rfl) (Eq.trans (ir_swn n19 rfl) (Eq.trans (ir_swn n20 rfl) (Eq.trans (ir_swn n21 rfl) (Eq.trans (ir_swn n22 rfl) (Eq.trans (ir_swn n23 rfl) (Eq.trans (ir_swn n24 rfl) (Eq.trans (ir_swn n25 rfl) (Eq.trans (ir_swn n26 rfl) (Eq.trans (ir_swn n27 rfl) (Eq.trans (ir_swn n28 rfl) (Eq.trans (ir_swn n29 rfl) (Eq.trans (ir_swn n30 rfl) (Eq.trans (ir_swn n31 rfl) (Eq.trans (ir_swn n32 rfl) (Eq.trans (ir_swn n33 rfl) (Eq.trans (ir_swn n34 rfl) (Eq.trans (ir_swn n35 rfl) (Eq.trans (ir_swn n36 rfl) (Eq.trans (ir_swn n37 rfl) (Eq.trans (ir_swn n38 rfl) (Eq.trans (ir_swn n39 rfl) (Eq.trans (ir_swn n40 rfl) rfl)))))))))))))))))))))))))))))))))))))))))) ?_
    refine iq_G_go (k := 2) (σ' := (23, [some (.ref 0), some (.ref 1), some (.ref 76), some (.ref 114), some (.int (x4 + (6 : Int32))), none, none, none], [], (iq_sh l, I, J, X))) (fun _ => rfl) ?_
    cases h
    exact iq_G_fg (L := [some (.ref 0), some (.ref 1), some (.ref 76), some (.ref 114), some (.int (x4 + (6 : Int32))), none, none, none]) (And.intro rfl (And.intro rfl (And.intro rfl (And.intro rfl (And.intro rfl trivial))))) (hc ((x4 + (6 : Int32)), I, J, X) rfl)
set_option maxRecDepth 100000 in
theorem zL_law_l23_ok (l : Nat)    {n : Nat} {v : Int32 × iq_I × iq_J × iq_X} {w : (iq_I × iq_J × iq_X) ⊕ (Int32 × iq_I × iq_J × iq_X)} (h : zL_law_l23 l  n v = some w) (r : iq_R × iq_M) (hq : (∀ a, w = .inl a → iq_Gg 72 357 (2530, [none, none, none, none, none, none, none, none], [], (iq_sh l, a.1, a.2.1, a.2.2)) r) ∧ (∀ b, w = .inr b → r = (.inl (some (.int b.1)), (iq_sh l, b.2.1, b.2.2.1, b.2.2.2)))) : iq_Gg 72 357 (23, [some (.ref 0), some (.ref 1), some (.ref 76), some (.ref 114), some (.int v.1), none, none, none], [], (iq_sh l, v.2.1, v.2.2.1, v.2.2.2)) r :=
  iq_lp_ok (σ := fun v => (23, [some (.ref 0), some (.ref 1), some (.ref 76), some (.ref 114), some (.int v.1), none, none, none], [], (iq_sh l, v.2.1, v.2.2.1, v.2.2.2))) (Q := fun w r => (∀ a, w = .inl a → iq_Gg 72 357 (2530, [none, none, none, none, none, none, none, none], [], (iq_sh l, a.1, a.2.1, a.2.2)) r) ∧ (∀ b, w = .inr b → r = (.inl (some (.int b.1)), (iq_sh l, b.2.1, b.2.2.1, b.2.2.2)))) (fun v q hv r h1 h2 => zL_law_l23_bok l  v.1 v.2.1 v.2.2.1 v.2.2.2 hv r h1 h2) h r hq
set_option maxRecDepth 100000 in
theorem zL_law_ok (l : Nat) (x4 : Int32) (I : iq_I) (J : iq_J) (X : iq_X) {q : Int32 × iq_I × iq_J × iq_X} (h : zL_law l x4 I J X = some q) : iq_Gg 72 357 (23, [some (.ref 0), some (.ref 1), some (.ref 76), some (.ref 114), some (.int x4), none, none, none], [], (iq_sh l, I, J, X)) (.inl (some (.int q.1)), (iq_sh l, q.2.1, q.2.2.1, q.2.2.2)) := by
  unfold zL_law at h
  obtain ⟨w115, hw115, h⟩ := iq_bnd h
  refine iq_G_fg (L := [some (.ref 0), some (.ref 1), some (.ref 76), some (.ref 114), some (.int x4), none, none, none]) (And.intro rfl (And.intro rfl (And.intro rfl (And.intro rfl (And.intro rfl trivial))))) ?_
  refine zL_law_l23_ok l  hw115 _ ⟨fun a116 ha => ?_, fun b117 hb => ?_⟩
  · subst ha
    replace h := ir_smL h
    show iq_Gg 72 357 (2530, [none, none, none, none, none, none, none, none], [], (iq_sh l, a116.1, a116.2.1, a116.2.2)) _
    refine iq_G_go (k := 1) (σ' := (2531, [none, none, none, none, none, none, none, none], [.int (1 : Int32)], (iq_sh l, a116.1, a116.2.1, a116.2.2))) (fun _ => rfl) ?_
    cases h
    exact iq_G_ret (fun _ => rfl)
  · subst hb
    replace h := ir_smR h
    cases h
    rfl


