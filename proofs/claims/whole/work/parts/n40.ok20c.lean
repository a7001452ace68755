/-! ===== the law ===== -/
set_option maxRecDepth 100000 in
theorem zL_law_1504_ok (l : Nat)  (x4 : Int32) (I : iq_I) (J : iq_J) (X : iq_X)  {q : (Int32 × iq_I × iq_J × iq_X) ⊕ ((iq_I × iq_J × iq_X) ⊕ (Int32 × iq_I × iq_J × iq_X))} (h : zL_law_1504 l x4 I J X = some q) (r : iq_R × iq_M) (hc : ∀ v, q = .inl v → iq_Gg 72 357 (23, [some (.ref 0), some (.ref 1), some (.ref 76), some (.ref 114), some (.int v.1), none, none, none], [], (iq_sh l, v.2.1, v.2.2.1, v.2.2.2)) r) (hx : ∀ w, q = .inr w → (∀ a, w = .inl a → iq_Gg 72 357 (2530, [none, none, none, none, none, none, none, none], [], (iq_sh l, a.1, a.2.1, a.2.2)) r) ∧ (∀ b, w = .inr b → r = (.inl (some (.int b.1)), (iq_sh l, b.2.1, b.2.2.1, b.2.2.2)))) : iq_Gg 72 357 (1504, [some (.ref 0), some (.ref 1), some (.ref 76), some (.ref 114), some (.int x4), none, none, none], [], (iq_sh l, I, J, X)) r := by
  unfold zL_law_1504 at h
  refine iq_G_go (k := 5) (σ' := (1510, [some (.ref 0), some (.ref 1), some (.ref 76), some (.ref 114), some (.int x4), none, none, none], [.int (x4 + (1 : Int32)), .ref 0, .ref 1], (iq_sh l, I, J, X))) (fun _ => rfl) ?_
  obtain ⟨hc_, h⟩ := iq_itn h
  refine iq_G_pos (c := iq_in (x4 + (1 : Int32)) l) (σ1 := (1511, [some (.ref 0), some (.ref 1), some (.ref 76), some (.ref 114), some (.int x4), none, none, none], [.int (I 0 (Int32.toNatClampNeg (x4 + (1 : Int32)))), .ref 1], (iq_sh l, I, J, X))) (fun _ => rfl) hc_ ?_
  refine iq_G_go (k := 4) (σ' := (1516, [some (.ref 0), some (.ref 1), some (.ref 76), some (.ref 114), some (.int x4), none, none, none], [.int (x4 + (2 : Int32)), .ref 0, .int (I 0 (Int32.toNatClampNeg (x4 + (1 : Int32)))), .ref 1], (iq_sh l, I, J, X))) (fun _ => rfl) ?_
  obtain ⟨hc_, h⟩ := iq_itn h
  refine iq_G_pos (c := iq_in (x4 + (2 : Int32)) l) (σ1 := (1517, [some (.ref 0), some (.ref 1), some (.ref 76), some (.ref 114), some (.int x4), none, none, none], [.int (I 0 (Int32.toNatClampNeg (x4 + (2 : Int32)))), .int (I 0 (Int32.toNatClampNeg (x4 + (1 : Int32)))), .ref 1], (iq_sh l, I, J, X))) (fun _ => rfl) hc_ ?_
  refine iq_G_go (k := 1) (σ' := (1518, [some (.ref 0), some (.ref 1), some (.ref 76), some (.ref 114), some (.int x4), none, none, none], [.ref 114, .int (I 0 (Int32.toNatClampNeg (x4 + (2 : Int32)))), .int (I 0 (Int32.toNatClampNeg (x4 + (1 : Int32)))), .ref 1], (iq_sh l, I, J, X))) (fun _ => rfl) ?_
  obtain ⟨q62, hq62, h⟩ := iq_bnd h
  refine iq_G_call (σ' := (1521, [some (.ref 0), some (.ref 1), some (.ref 76), some (.ref 114), some (.int x4), none, none, none], [.int q62.1], (iq_sh l, q62.2.1, q62.2.2.1, q62.2.2.2))) (fun _ => rfl) (zL_see_ok l (I 0 (Int32.toNatClampNeg (x4 + (1 : Int32)))) (I 0 (Int32.toNatClampNeg (x4 + (2 : Int32)))) I J X hq62) rfl rfl ?_
  refine iq_G_go (k := 6) (σ' := (1529, [some (.ref 0), some (.ref 1), some (.ref 76), some (.ref 114), some (.int x4), some (.int q62.1), none, none], [.int (x4 + (1 : Int32)), .ref 0, .ref 76], (iq_sh l, q62.2.1, q62.2.2.1, q62.2.2.2))) (fun _ => rfl) ?_
  obtain ⟨hc_, h⟩ := iq_itn h
  refine iq_G_pos (c := iq_in (x4 + (1 : Int32)) l) (σ1 := (1530, [some (.ref 0), some (.ref 1), some (.ref 76), some (.ref 114), some (.int x4), some (.int q62.1), none, none], [.int (q62.2.1 0 (Int32.toNatClampNeg (x4 + (1 : Int32)))), .ref 76], (iq_sh l, q62.2.1, q62.2.2.1, q62.2.2.2))) (fun _ => rfl) hc_ ?_
  refine iq_G_go (k := 4) (σ' := (1535, [some (.ref 0), some (.ref 1), some (.ref 76), some (.ref 114), some (.int x4), some (.int q62.1), none, none], [.int (x4 + (2 : Int32)), .ref 0, .int (q62.2.1 0 (Int32.toNatClampNeg (x4 + (1 : Int32)))), .ref 76], (iq_sh l, q62.2.1, q62.2.2.1, q62.2.2.2))) (fun _ => rfl) ?_
  obtain ⟨hc_, h⟩ := iq_itn h
  refine iq_G_pos (c := iq_in (x4 + (2 : Int32)) l) (σ1 := (1536, [some (.ref 0), some (.ref 1), some (.ref 76), some (.ref 114), some (.int x4), some (.int q62.1), none, none], [.int (q62.2.1 0 (Int32.toNatClampNeg (x4 + (2 : Int32)))), .int (q62.2.1 0 (Int32.toNatClampNeg (x4 + (1 : Int32)))), .ref 76], (iq_sh l, q62.2.1, q62.2.2.1, q62.2.2.2))) (fun _ => rfl) hc_ ?_
  obtain ⟨q63, hq63, h⟩ := iq_bnd h
  refine iq_G_call (σ' := (1539, [some (.ref 0), some (.ref 1), some (.ref 76), some (.ref 114), some (.int x4), some (.int q62.1), none, none], [.int q63.1], (iq_sh l, q63.2, q62.2.2.1, q62.2.2.2))) (fun _ => rfl) (zM_see_ok l (q62.2.1 0 (Int32.toNatClampNeg (x4 + (1 : Int32)))) (q62.2.1 0 (Int32.toNatClampNeg (x4 + (2 : Int32)))) q62.2.1 q62.2.2.1 q62.2.2.2 hq63) rfl rfl ?_
  refine iq_G_go (k := 2) (σ' := (1542, [some (.ref 0), some (.ref 1), some (.ref 76), some (.ref 114), some (.int x4), some (.int q62.1), some (.int q63.1), none], [.ref 76], (iq_sh l, q63.2, q62.2.2.1, q62.2.2.2))) (fun _ => rfl) ?_
  obtain ⟨q64, hq64, h⟩ := iq_bnd h
  refine iq_G_call (σ' := (1545, [some (.ref 0), some (.ref 1), some (.ref 76), some (.ref 114), some (.int x4), some (.int q62.1), some (.int q63.1), none], [.int q64], (iq_sh l, q63.2, q62.2.2.1, q62.2.2.2))) (fun _ => rfl) (zM_thrown_ok l  q63.2 q62.2.2.1 q62.2.2.2 hq64) rfl rfl ?_
  refine iq_G_go (k := 1) (σ' := (1547, [some (.ref 0), some (.ref 1), some (.ref 76), some (.ref 114), some (.int x4), some (.int q62.1), some (.int q63.1), none], [.int q62.1, .int q64], (iq_sh l, q63.2, q62.2.2.1, q62.2.2.2))) (fun _ => rfl) ?_
  rcases iq_ite h with ⟨hc_, h⟩ | ⟨hc_, h⟩
  · refine iq_G_pos (c := q64 = q62.1) (σ1 := (1552, [some (.ref 0), some (.ref 1), some (.ref 76), some (.ref 114), some (.int x4), some (.int q62.1), some (.int q63.1), none], [], (iq_sh l, q63.2, q62.2.2.1, q62.2.2.2))) (fun _ => rfl) hc_ ?_
    refine iq_G_go (k := 1) (σ' := (1554, [some (.ref 0), some (.ref 1), some (.ref 76), some (.ref 114), some (.int x4), some (.int q62.1), some (.int q63.1), none], [.int q62.1], (iq_sh l, q63.2, q62.2.2.1, q62.2.2.2))) (fun _ => rfl) ?_
    rcases iq_ite h with ⟨hc_, h⟩ | ⟨hc_, h⟩
    · refine iq_G_pos (c := ¬ q62.1 = 0) (σ1 := (1569, [some (.ref 0), some (.ref 1), some (.ref 76), some (.ref 114), some (.int x4), some (.int q62.1), some (.int q63.1), none], [], (iq_sh l, q63.2, q62.2.2.1, q62.2.2.2))) (fun _ => rfl) hc_ ?_
      refine iq_G_go (k := 1) (σ' := (2524, [some (.ref 0), some (.ref 1), some (.ref 76), some (.ref 114), some (.int x4), some (.int q62.1), some (.int q63.1), none], [], (iq_sh l, q63.2, q62.2.2.1, q62.2.2.2))) (fun _ => rfl) ?_
      refine iq_G_go (k := 2) (σ' := (23, [some (.ref 0), some (.ref 1), some (.ref 76), some (.ref 114), some (.int (x4 + (6 : Int32))), some (.int q62.1), some (.int q63.1), none], [], (iq_sh l, q63.2, q62.2.2.1, q62.2.2.2))) (fun _ => rfl) ?_
      cases h
      exact iq_G_fg (L := [some (.ref 0), some (.ref 1), some (.ref 76), some (.ref 114), some (.int (x4 + (6 : Int32))), none, none, none]) (And.intro rfl (And.intro rfl (And.intro rfl (And.intro rfl (And.intro rfl trivial))))) (hc ((x4 + (6 : Int32)), q63.2, q62.2.2.1, q62.2.2.2) rfl)
    · refine iq_G_neg (c := ¬ q62.1 = 0) (σ1 := (1557, [some (.ref 0), some (.ref 1), some (.ref 76), some (.ref 114), some (.int x4), some (.int q62.1), some (.int q63.1), none], [], (iq_sh l, q63.2, q62.2.2.1, q62.2.2.2))) (fun _ => rfl) hc_ ?_
      refine iq_G_go (k := 2) (σ' := (1559, [some (.ref 0), some (.ref 1), some (.ref 76), some (.ref 114), some (.int x4), some (.int q62.1), some (.int q63.1), none], [.int (0 : Int32), .ref 114], (iq_sh l, q63.2, q62.2.2.1, q62.2.2.2))) (fun _ => rfl) ?_
      refine iq_G_go (k := 1) (σ' := (1560, [some (.ref 0), some (.ref 1), some (.ref 76), some (.ref 114), some (.int x4), some (.int q62.1), some (.int q63.1), none], [.long (q62.2.2.1 114 0)], (iq_sh l, q63.2, q62.2.2.1, q62.2.2.2))) (fun _ => rfl) ?_
      refine iq_G_go (k := 3) (σ' := (1564, [some (.ref 0), some (.ref 1), some (.ref 76), some (.ref 114), some (.int x4), some (.int q62.1), some (.int q63.1), none], [.int (lg_cmp (q62.2.2.1 114 0) (Int32.toInt64 q63.1))], (iq_sh l, q63.2, q62.2.2.1, q62.2.2.2))) (fun _ => rfl) ?_
      rcases iq_ite h with ⟨hc_, h⟩ | ⟨hc_, h⟩
      · refine iq_G_pos (c := (lg_cmp (q62.2.2.1 114 0) (Int32.toInt64 q63.1)) = 0) (σ1 := (1569, [some (.ref 0), some (.ref 1), some (.ref 76), some (.ref 114), some (.int x4), some (.int q62.1), some (.int q63.1), none], [], (iq_sh l, q63.2, q62.2.2.1, q62.2.2.2))) (fun _ => rfl) hc_ ?_
        refine iq_G_go (k := 1) (σ' := (2524, [some (.ref 0), some (.ref 1), some (.ref 76), some (.ref 114), some (.int x4), some (.int q62.1), some (.int q63.1), none], [], (iq_sh l, q63.2, q62.2.2.1, q62.2.2.2))) (fun _ => rfl) ?_
        refine iq_G_go (k := 2) (σ' := (23, [some (.ref 0), some (.ref 1), some (.ref 76), some (.ref 114), some (.int (x4 + (6 : Int32))), some (.int q62.1), some (.int q63.1), none], [], (iq_sh l, q63.2, q62.2.2.1, q62.2.2.2))) (fun _ => rfl) ?_
        cases h
        exact iq_G_fg (L := [some (.ref 0), some (.ref 1), some (.ref 76), some (.ref 114), some (.int (x4 + (6 : Int32))), none, none, none]) (And.intro rfl (And.intro rfl (And.intro rfl (And.intro rfl (And.intro rfl trivial))))) (hc ((x4 + (6 : Int32)), q63.2, q62.2.2.1, q62.2.2.2) rfl)
      · refine iq_G_neg (c := (lg_cmp (q62.2.2.1 114 0) (Int32.toInt64 q63.1)) = 0) (σ1 := (1567, [some (.ref 0), some (.ref 1), some (.ref 76), some (.ref 114), some (.int x4), some (.int q62.1), some (.int q63.1), none], [], (iq_sh l, q63.2, q62.2.2.1, q62.2.2.2))) (fun _ => rfl) hc_ ?_
        refine iq_G_go (k := 1) (σ' := (1568, [some (.ref 0), some (.ref 1), some (.ref 76), some (.ref 114), some (.int x4), some (.int q62.1), some (.int q63.1), none], [.int (0 : Int32)], (iq_sh l, q63.2, q62.2.2.1, q62.2.2.2))) (fun _ => rfl) ?_
        cases h
        obtain rfl := (hx _ rfl).2 _ rfl
        exact iq_G_ret (fun _ => rfl)
  · refine iq_G_neg (c := q64 = q62.1) (σ1 := (1550, [some (.ref 0), some (.ref 1), some (.ref 76), some (.ref 114), some (.int x4), some (.int q62.1), some (.int q63.1), none], [], (iq_sh l, q63.2, q62.2.2.1, q62.2.2.2))) (fun _ => rfl) hc_ ?_
    refine iq_G_go (k := 1) (σ' := (1551, [some (.ref 0), some (.ref 1), some (.ref 76), some (.ref 114), some (.int x4), some (.int q62.1), some (.int q63.1), none], [.int (0 : Int32)], (iq_sh l, q63.2, q62.2.2.1, q62.2.2.2))) (fun _ => rfl) ?_
    cases h
    obtain rfl := (hx _ rfl).2 _ rfl
    exact iq_G_ret (fun _ => rfl)
set_option maxRecDepth 100000 in
theorem zL_law_1572_ok (l : Nat)  (x4 : Int32) (I : iq_I) (J : iq_J) (X : iq_X)  {q : (Int32 × iq_I × iq_J × iq_X) ⊕ ((iq_I × iq_J × iq_X) ⊕ (Int32 × iq_I × iq_J × iq_X))} (h : zL_law_1572 l x4 I J X = some q) (r : iq_R × iq_M) (hc : ∀ v, q = .inl v → iq_Gg 72 357 (23, [some (.ref 0), some (.ref 1), some (.ref 76), some (.ref 114), some (.int v.1), none, none, none], [], (iq_sh l, v.2.1, v.2.2.1, v.2.2.2)) r) (hx : ∀ w, q = .inr w → (∀ a, w = .inl a → iq_Gg 72 357 (2530, [none, none, none, none, none, none, none, none], [], (iq_sh l, a.1, a.2.1, a.2.2)) r) ∧ (∀ b, w = .inr b → r = (.inl (some (.int b.1)), (iq_sh l, b.2.1, b.2.2.1, b.2.2.2)))) : iq_Gg 72 357 (1572, [some (.ref 0), some (.ref 1), some (.ref 76), some (.ref 114), some (.int x4), none, none, none], [], (iq_sh l, I, J, X)) r := by
  unfold zL_law_1572 at h
  refine iq_G_go (k := 1) (σ' := (1573, [some (.ref 0), some (.ref 1), some (.ref 76), some (.ref 114), some (.int x4), none, none, none], [.ref 1], (iq_sh l, I, J, X))) (fun _ => rfl) ?_
  obtain ⟨q65, hq65, h⟩ := iq_bnd h
  refine iq_G_call (σ' := (1576, [some (.ref 0), some (.ref 1), some (.ref 76), some (.ref 114), some (.int x4), none, none, none], [], (iq_sh l, q65, J, X))) (fun _ => rfl) (zO_forget_ok l  I J X hq65) rfl rfl ?_
  refine iq_G_go (k := 1) (σ' := (1577, [some (.ref 0), some (.ref 1), some (.ref 76), some (.ref 114), some (.int x4), none, none, none], [.ref 76], (iq_sh l, q65, J, X))) (fun _ => rfl) ?_
  obtain ⟨q66, hq66, h⟩ := iq_bnd h
  refine iq_G_call (σ' := (1580, [some (.ref 0), some (.ref 1), some (.ref 76), some (.ref 114), some (.int x4), none, none, none], [], (iq_sh l, q66, J, X))) (fun _ => rfl) (zM_forget_ok l  q65 J X hq66) rfl rfl ?_
  refine iq_G_go (k := 1) (σ' := (2524, [some (.ref 0), some (.ref 1), some (.ref 76), some (.ref 114), some (.int x4), none, none, none], [], (iq_sh l, q66, J, X))) (fun _ => rfl) ?_
  refine iq_G_go (k := 2) (σ' := (23, [some (.ref 0), some (.ref 1), some (.ref 76), some (.ref 114), some (.int (x4 + (6 : Int32))), none, none, none], [], (iq_sh l, q66, J, X))) (fun _ => rfl) ?_
  cases h
  exact iq_G_fg (L := [some (.ref 0), some (.ref 1), some (.ref 76), some (.ref 114), some (.int (x4 + (6 : Int32))), none, none, none]) (And.intro rfl (And.intro rfl (And.intro rfl (And.intro rfl (And.intro rfl trivial))))) (hc ((x4 + (6 : Int32)), q66, J, X) rfl)
set_option maxRecDepth 100000 in
theorem zL_law_1583_ok (l : Nat)  (x4 : Int32) (I : iq_I) (J : iq_J) (X : iq_X)  {q : (Int32 × iq_I × iq_J × iq_X) ⊕ ((iq_I × iq_J × iq_X) ⊕ (Int32 × iq_I × iq_J × iq_X))} (h : zL_law_1583 l x4 I J X = some q) (r : iq_R × iq_M) (hc : ∀ v, q = .inl v → iq_Gg 72 357 (23, [some (.ref 0), some (.ref 1), some (.ref 76), some (.ref 114), some (.int v.1), none, none, none], [], (iq_sh l, v.2.1, v.2.2.1, v.2.2.2)) r) (hx : ∀ w, q = .inr w → (∀ a, w = .inl a → iq_Gg 72 357 (2530, [none, none, none, none, none, none, none, none], [], (iq_sh l, a.1, a.2.1, a.2.2)) r) ∧ (∀ b, w = .inr b → r = (.inl (some (.int b.1)), (iq_sh l, b.2.1, b.2.2.1, b.2.2.2)))) : iq_Gg 72 357 (1583, [some (.ref 0), some (.ref 1), some (.ref 76), some (.ref 114), some (.int x4), none, none, none], [], (iq_sh l, I, J, X)) r := by
  unfold zL_law_1583 at h
  refine iq_G_go (k := 5) (σ' := (1589, [some (.ref 0), some (.ref 1), some (.ref 76), some (.ref 114), some (.int x4), none, none, none], [.int (x4 + (1 : Int32)), .ref 0, .ref 1], (iq_sh l, I, J, X))) (fun _ => rfl) ?_
  obtain ⟨hc_, h⟩ := iq_itn h
  refine iq_G_pos (c := iq_in (x4 + (1 : Int32)) l) (σ1 := (1590, [some (.ref 0), some (.ref 1), some (.ref 76), some (.ref 114), some (.int x4), none, none, none], [.int (I 0 (Int32.toNatClampNeg (x4 + (1 : Int32)))), .ref 1], (iq_sh l, I, J, X))) (fun _ => rfl) hc_ ?_
  refine iq_G_go (k := 1) (σ' := (1591, [some (.ref 0), some (.ref 1), some (.ref 76), some (.ref 114), some (.int x4), none, none, none], [.ref 114, .int (I 0 (Int32.toNatClampNeg (x4 + (1 : Int32)))), .ref 1], (iq_sh l, I, J, X))) (fun _ => rfl) ?_
  obtain ⟨q67, hq67, h⟩ := iq_bnd h
  refine iq_G_call (σ' := (1594, [some (.ref 0), some (.ref 1), some (.ref 76), some (.ref 114), some (.int x4), none, none, none], [.int q67.1], (iq_sh l, q67.2.1, q67.2.2.1, q67.2.2.2))) (fun _ => rfl) (zL_who_ok l (I 0 (Int32.toNatClampNeg (x4 + (1 : Int32)))) I J X hq67) rfl rfl ?_
  refine iq_G_go (k := 6) (σ' := (1602, [some (.ref 0), some (.ref 1), some (.ref 76), some (.ref 114), some (.int x4), some (.int q67.1), none, none], [.int (x4 + (1 : Int32)), .ref 0, .ref 76], (iq_sh l, q67.2.1, q67.2.2.1, q67.2.2.2))) (fun _ => rfl) ?_
  obtain ⟨hc_, h⟩ := iq_itn h
  refine iq_G_pos (c := iq_in (x4 + (1 : Int32)) l) (σ1 := (1603, [some (.ref 0), some (.ref 1), some (.ref 76), some (.ref 114), some (.int x4), some (.int q67.1), none, none], [.int (q67.2.1 0 (Int32.toNatClampNeg (x4 + (1 : Int32)))), .ref 76], (iq_sh l, q67.2.1, q67.2.2.1, q67.2.2.2))) (fun _ => rfl) hc_ ?_
  obtain ⟨q68, hq68, h⟩ := iq_bnd h
  refine iq_G_call (σ' := (1606, [some (.ref 0), some (.ref 1), some (.ref 76), some (.ref 114), some (.int x4), some (.int q67.1), none, none], [.int q68.1], (iq_sh l, q68.2, q67.2.2.1, q67.2.2.2))) (fun _ => rfl) (zM_who_ok l (q67.2.1 0 (Int32.toNatClampNeg (x4 + (1 : Int32)))) q67.2.1 q67.2.2.1 q67.2.2.2 hq68) rfl rfl ?_
  refine iq_G_go (k := 2) (σ' := (1609, [some (.ref 0), some (.ref 1), some (.ref 76), some (.ref 114), some (.int x4), some (.int q67.1), some (.int q68.1), none], [.ref 76], (iq_sh l, q68.2, q67.2.2.1, q67.2.2.2))) (fun _ => rfl) ?_
  obtain ⟨q69, hq69, h⟩ := iq_bnd h
  refine iq_G_call (σ' := (1612, [some (.ref 0), some (.ref 1), some (.ref 76), some (.ref 114), some (.int x4), some (.int q67.1), some (.int q68.1), none], [.int q69], (iq_sh l, q68.2, q67.2.2.1, q67.2.2.2))) (fun _ => rfl) (zM_thrown_ok l  q68.2 q67.2.2.1 q67.2.2.2 hq69) rfl rfl ?_
  refine iq_G_go (k := 1) (σ' := (1614, [some (.ref 0), some (.ref 1), some (.ref 76), some (.ref 114), some (.int x4), some (.int q67.1), some (.int q68.1), none], [.int q67.1, .int q69], (iq_sh l, q68.2, q67.2.2.1, q67.2.2.2))) (fun _ => rfl) ?_
  rcases iq_ite h with ⟨hc_, h⟩ | ⟨hc_, h⟩
  · refine iq_G_pos (c := q69 = q67.1) (σ1 := (1619, [some (.ref 0), some (.ref 1), some (.ref 76), some (.ref 114), some (.int x4), some (.int q67.1), some (.int q68.1), none], [], (iq_sh l, q68.2, q67.2.2.1, q67.2.2.2))) (fun _ => rfl) hc_ ?_
    refine iq_G_go (k := 1) (σ' := (1621, [some (.ref 0), some (.ref 1), some (.ref 76), some (.ref 114), some (.int x4), some (.int q67.1), some (.int q68.1), none], [.int q67.1], (iq_sh l, q68.2, q67.2.2.1, q67.2.2.2))) (fun _ => rfl) ?_
    rcases iq_ite h with ⟨hc_, h⟩ | ⟨hc_, h⟩
    · refine iq_G_pos (c := ¬ q67.1 = 0) (σ1 := (1636, [some (.ref 0), some (.ref 1), some (.ref 76), some (.ref 114), some (.int x4), some (.int q67.1), some (.int q68.1), none], [], (iq_sh l, q68.2, q67.2.2.1, q67.2.2.2))) (fun _ => rfl) hc_ ?_
      refine iq_G_go (k := 1) (σ' := (2524, [some (.ref 0), some (.ref 1), some (.ref 76), some (.ref 114), some (.int x4), some (.int q67.1), some (.int q68.1), none], [], (iq_sh l, q68.2, q67.2.2.1, q67.2.2.2))) (fun _ => rfl) ?_
      refine iq_G_go (k := 2) (σ' := (23, [some (.ref 0), some (.ref 1), some (.ref 76), some (.ref 114), some (.int (x4 + (6 : Int32))), some (.int q67.1), some (.int q68.1), none], [], (iq_sh l, q68.2, q67.2.2.1, q67.2.2.2))) (fun _ => rfl) ?_
      cases h
      exact iq_G_fg (L := [some (.ref 0), some (.ref 1), some (.ref 76), some (.ref 114), some (.int (x4 + (6 : Int32))), none, none, none]) (And.intro rfl (And.intro rfl (And.intro rfl (And.intro rfl (And.intro rfl trivial))))) (hc ((x4 + (6 : Int32)), q68.2, q67.2.2.1, q67.2.2.2) rfl)
    · refine iq_G_neg (c := ¬ q67.1 = 0) (σ1 := (1624, [some (.ref 0), some (.ref 1), some (.ref 76), some (.ref 114), some (.int x4), some (.int q67.1), some (.int q68.1), none], [], (iq_sh l, q68.2, q67.2.2.1, q67.2.2.2))) (fun _ => rfl) hc_ ?_
      refine iq_G_go (k := 2) (σ' := (1626, [some (.ref 0), some (.ref 1), some (.ref 76), some (.ref 114), some (.int x4), some (.int q67.1), some (.int q68.1), none], [.int (0 : Int32), .ref 114], (iq_sh l, q68.2, q67.2.2.1, q67.2.2.2))) (fun _ => rfl) ?_
      refine iq_G_go (k := 1) (σ' := (1627, [some (.ref 0), some (.ref 1), some (.ref 76), some (.ref 114), some (.int x4), some (.int q67.1), some (.int q68.1), none], [.long (q67.2.2.1 114 0)], (iq_sh l, q68.2, q67.2.2.1, q67.2.2.2))) (fun _ => rfl) ?_
      refine iq_G_go (k := 3) (σ' := (1631, [some (.ref 0), some (.ref 1), some (.ref 76), some (.ref 114), some (.int x4), some (.int q67.1), some (.int q68.1), none], [.int (lg_cmp (q67.2.2.1 114 0) (Int32.toInt64 q68.1))], (iq_sh l, q68.2, q67.2.2.1, q67.2.2.2))) (fun _ => rfl) ?_
      rcases iq_ite h with ⟨hc_, h⟩ | ⟨hc_, h⟩
      · refine iq_G_pos (c := (lg_cmp (q67.2.2.1 114 0) (Int32.toInt64 q68.1)) = 0) (σ1 := (1636, [some (.ref 0), some (.ref 1), some (.ref 76), some (.ref 114), some (.int x4), some (.int q67.1), some (.int q68.1), none], [], (iq_sh l, q68.2, q67.2.2.1, q67.2.2.2))) (fun _ => rfl) hc_ ?_
        refine iq_G_go (k := 1) (σ' := (2524, [some (.ref 0), some (.ref 1), some (.ref 76), some (.ref 114), some (.int x4), some (.int q67.1), some (.int q68.1), none], [], (iq_sh l, q68.2, q67.2.2.1, q67.2.2.2))) (fun _ => rfl) ?_
        refine iq_G_go (k := 2) (σ' := (23, [some (.ref 0), some (.ref 1), some (.ref 76), some (.ref 114), some (.int (x4 + (6 : Int32))), some (.int q67.1), some (.int q68.1), none], [], (iq_sh l, q68.2, q67.2.2.1, q67.2.2.2))) (fun _ => rfl) ?_
        cases h
        exact iq_G_fg (L := [some (.ref 0), some (.ref 1), some (.ref 76), some (.ref 114), some (.int (x4 + (6 : Int32))), none, none, none]) (And.intro rfl (And.intro rfl (And.intro rfl (And.intro rfl (And.intro rfl trivial))))) (hc ((x4 + (6 : Int32)), q68.2, q67.2.2.1, q67.2.2.2) rfl)
      · refine iq_G_neg (c := (lg_cmp (q67.2.2.1 114 0) (Int32.toInt64 q68.1)) = 0) (σ1 := (1634, [some (.ref 0), some (.ref 1), some (.ref 76), some (.ref 114), some (.int x4), some (.int q67.1), some (.int q68.1), none], [], (iq_sh l, q68.2, q67.2.2.1, q67.2.2.2))) (fun _ => rfl) hc_ ?_
        refine iq_G_go (k := 1) (σ' := (1635, [some (.ref 0), some (.ref 1), some (.ref 76), some (.ref 114), some (.int x4), some (.int q67.1), some (.int q68.1), none], [.int (0 : Int32)], (iq_sh l, q68.2, q67.2.2.1, q67.2.2.2))) (fun _ => rfl) ?_
        cases h
        obtain rfl := (hx _ rfl).2 _ rfl
        exact iq_G_ret (fun _ => rfl)
  · refine iq_G_neg (c := q69 = q67.1) (σ1 := (1617, [some (.ref 0), some (.ref 1), some (.ref 76), some (.ref 114), some (.int x4), some (.int q67.1), some (.int q68.1), none], [], (iq_sh l, q68.2, q67.2.2.1, q67.2.2.2))) (fun _ => rfl) hc_ ?_
    refine iq_G_go (k := 1) (σ' := (1618, [some (.ref 0), some (.ref 1), some (.ref 76), some (.ref 114), some (.int x4), some (.int q67.1), some (.int q68.1), none], [.int (0 : Int32)], (iq_sh l, q68.2, q67.2.2.1, q67.2.2.2))) (fun _ => rfl) ?_
    cases h
    obtain rfl := (hx _ rfl).2 _ rfl
    exact iq_G_ret (fun _ => rfl)
set_option maxRecDepth 100000 in
theorem zL_law_1639_ok (l : Nat)  (x4 : Int32) (I : iq_I) (J : iq_J) (X : iq_X)  {q : (Int32 × iq_I × iq_J × iq_X) ⊕ ((iq_I × iq_J × iq_X) ⊕ (Int32 × iq_I × iq_J × iq_X))} (h : zL_law_1639 l x4 I J X = some q) (r : iq_R × iq_M) (hc : ∀ v, q = .inl v → iq_Gg 72 357 (23, [some (.ref 0), some (.ref 1), some (.ref 76), some (.ref 114), some (.int v.1), none, none, none], [], (iq_sh l, v.2.1, v.2.2.1, v.2.2.2)) r) (hx : ∀ w, q = .inr w → (∀ a, w = .inl a → iq_Gg 72 357 (2530, [none, none, none, none, none, none, none, none], [], (iq_sh l, a.1, a.2.1, a.2.2)) r) ∧ (∀ b, w = .inr b → r = (.inl (some (.int b.1)), (iq_sh l, b.2.1, b.2.2.1, b.2.2.2)))) : iq_Gg 72 357 (1639, [some (.ref 0), some (.ref 1), some (.ref 76), some (.ref 114), some (.int x4), none, none, none], [], (iq_sh l, I, J, X)) r := by
  unfold zL_law_1639 at h
  refine iq_G_go (k := 5) (σ' := (1645, [some (.ref 0), some (.ref 1), some (.ref 76), some (.ref 114), some (.int x4), none, none, none], [.int (x4 + (1 : Int32)), .ref 0, .ref 1], (iq_sh l, I, J, X))) (fun _ => rfl) ?_
  obtain ⟨hc_, h⟩ := iq_itn h
  refine iq_G_pos (c := iq_in (x4 + (1 : Int32)) l) (σ1 := (1646, [some (.ref 0), some (.ref 1), some (.ref 76), some (.ref 114), some (.int x4), none, none, none], [.int (I 0 (Int32.toNatClampNeg (x4 + (1 : Int32)))), .ref 1], (iq_sh l, I, J, X))) (fun _ => rfl) hc_ ?_
  refine iq_G_go (k := 1) (σ' := (1647, [some (.ref 0), some (.ref 1), some (.ref 76), some (.ref 114), some (.int x4), none, none, none], [.ref 114, .int (I 0 (Int32.toNatClampNeg (x4 + (1 : Int32)))), .ref 1], (iq_sh l, I, J, X))) (fun _ => rfl) ?_
  obtain ⟨q70, hq70, h⟩ := iq_bnd h
  refine iq_G_call (σ' := (1650, [some (.ref 0), some (.ref 1), some (.ref 76), some (.ref 114), some (.int x4), none, none, none], [.int q70.1], (iq_sh l, I, q70.2.1, q70.2.2))) (fun _ => rfl) (zL_begun_ok l (I 0 (Int32.toNatClampNeg (x4 + (1 : Int32)))) I J X hq70) rfl rfl ?_
  refine iq_G_go (k := 6) (σ' := (1658, [some (.ref 0), some (.ref 1), some (.ref 76), some (.ref 114), some (.int x4), some (.int q70.1), none, none], [.int (x4 + (1 : Int32)), .ref 0, .ref 76], (iq_sh l, I, q70.2.1, q70.2.2))) (fun _ => rfl) ?_
  obtain ⟨hc_, h⟩ := iq_itn h
  refine iq_G_pos (c := iq_in (x4 + (1 : Int32)) l) (σ1 := (1659, [some (.ref 0), some (.ref 1), some (.ref 76), some (.ref 114), some (.int x4), some (.int q70.1), none, none], [.int (I 0 (Int32.toNatClampNeg (x4 + (1 : Int32)))), .ref 76], (iq_sh l, I, q70.2.1, q70.2.2))) (fun _ => rfl) hc_ ?_
  obtain ⟨q71, hq71, h⟩ := iq_bnd h
  refine iq_G_call (σ' := (1662, [some (.ref 0), some (.ref 1), some (.ref 76), some (.ref 114), some (.int x4), some (.int q70.1), none, none], [.int q71.1], (iq_sh l, q71.2, q70.2.1, q70.2.2))) (fun _ => rfl) (zM_begun_ok l (I 0 (Int32.toNatClampNeg (x4 + (1 : Int32)))) I q70.2.1 q70.2.2 hq71) rfl rfl ?_
  refine iq_G_go (k := 2) (σ' := (1665, [some (.ref 0), some (.ref 1), some (.ref 76), some (.ref 114), some (.int x4), some (.int q70.1), some (.int q71.1), none], [.ref 76], (iq_sh l, q71.2, q70.2.1, q70.2.2))) (fun _ => rfl) ?_
  obtain ⟨q72, hq72, h⟩ := iq_bnd h
  refine iq_G_call (σ' := (1668, [some (.ref 0), some (.ref 1), some (.ref 76), some (.ref 114), some (.int x4), some (.int q70.1), some (.int q71.1), none], [.int q72], (iq_sh l, q71.2, q70.2.1, q70.2.2))) (fun _ => rfl) (zM_thrown_ok l  q71.2 q70.2.1 q70.2.2 hq72) rfl rfl ?_
  refine iq_G_go (k := 1) (σ' := (1670, [some (.ref 0), some (.ref 1), some (.ref 76), some (.ref 114), some (.int x4), some (.int q70.1), some (.int q71.1), none], [.int q70.1, .int q72], (iq_sh l, q71.2, q70.2.1, q70.2.2))) (fun _ => rfl) ?_
  rcases iq_ite h with ⟨hc_, h⟩ | ⟨hc_, h⟩
  · refine iq_G_pos (c := q72 = q70.1) (σ1 := (1675, [some (.ref 0), some (.ref 1), some (.ref 76), some (.ref 114), some (.int x4), some (.int q70.1), some (.int q71.1), none], [], (iq_sh l, q71.2, q70.2.1, q70.2.2))) (fun _ => rfl) hc_ ?_
    refine iq_G_go (k := 1) (σ' := (1677, [some (.ref 0), some (.ref 1), some (.ref 76), some (.ref 114), some (.int x4), some (.int q70.1), some (.int q71.1), none], [.int q70.1], (iq_sh l, q71.2, q70.2.1, q70.2.2))) (fun _ => rfl) ?_
    rcases iq_ite h with ⟨hc_, h⟩ | ⟨hc_, h⟩
    · refine iq_G_pos (c := ¬ q70.1 = 0) (σ1 := (1692, [some (.ref 0), some (.ref 1), some (.ref 76), some (.ref 114), some (.int x4), some (.int q70.1), some (.int q71.1), none], [], (iq_sh l, q71.2, q70.2.1, q70.2.2))) (fun _ => rfl) hc_ ?_
      refine iq_G_go (k := 1) (σ' := (2524, [some (.ref 0), some (.ref 1), some (.ref 76), some (.ref 114), some (.int x4), some (.int q70.1), some (.int q71.1), none], [], (iq_sh l, q71.2, q70.2.1, q70.2.2))) (fun _ => rfl) ?_
      refine iq_G_go (k := 2) (σ' := (23, [some (.ref 0), some (.ref 1), some (.ref 76), some (.ref 114), some (.int (x4 + (6 : Int32))), some (.int q70.1), some (.int q71.1), none], [], (iq_sh l, q71.2, q70.2.1, q70.2.2))) (fun _ => rfl) ?_
      cases h
      exact iq_G_fg (L := [some (.ref 0), some (.ref 1), some (.ref 76), some (.ref 114), some (.int (x4 + (6 : Int32))), none, none, none]) (And.intro rfl (And.intro rfl (And.intro rfl (And.intro rfl (And.intro rfl trivial))))) (hc ((x4 + (6 : Int32)), q71.2, q70.2.1, q70.2.2) rfl)
    · refine iq_G_neg (c := ¬ q70.1 = 0) (σ1 := (1680, [some (.ref 0), some (.ref 1), some (.ref 76), some (.ref 114), some (.int x4), some (.int q70.1), some (.int q71.1), none], [], (iq_sh l, q71.2, q70.2.1, q70.2.2))) (fun _ => rfl) hc_ ?_
      refine iq_G_go (k := 2) (σ' := (1682, [some (.ref 0), some (.ref 1), some (.ref 76), some (.ref 114), some (.int x4), some (.int q70.1), some (.int q71.1), none], [.int (0 : Int32), .ref 114], (iq_sh l, q71.2, q70.2.1, q70.2.2))) (fun _ => rfl) ?_
      refine iq_G_go (k := 1) (σ' := (1683, [some (.ref 0), some (.ref 1), some (.ref 76), some (.ref 114), some (.int x4), some (.int q70.1), some (.int q71.1), none], [.long (q70.2.1 114 0)], (iq_sh l, q71.2, q70.2.1, q70.2.2))) (fun _ => rfl) ?_
      refine iq_G_go (k := 3) (σ' := (1687, [some (.ref 0), some (.ref 1), some (.ref 76), some (.ref 114), some (.int x4), some (.int q70.1), some (.int q71.1), none], [.int (lg_cmp (q70.2.1 114 0) (Int32.toInt64 q71.1))], (iq_sh l, q71.2, q70.2.1, q70.2.2))) (fun _ => rfl) ?_
      rcases iq_ite h with ⟨hc_, h⟩ | ⟨hc_, h⟩
      · refine iq_G_pos (c := (lg_cmp (q70.2.1 114 0) (Int32.toInt64 q71.1)) = 0) (σ1 := (1692, [some (.ref 0), some (.ref 1), some (.ref 76), some (.ref 114), some (.int x4), some (.int q70.1), some (.int q71.1), none], [], (iq_sh l, q71.2, q70.2.1, q70.2.2))) (fun _ => rfl) hc_ ?_
        refine iq_G_go (k := 1) (σ' := (2524, [some (.ref 0), some (.ref 1), some (.ref 76), some (.ref 114), some (.int x4), some (.int q70.1), some (.int q71.1), none], [], (iq_sh l, q71.2, q70.2.1, q70.2.2))) (fun _ => rfl) ?_
        refine iq_G_go (k := 2) (σ' := (23, [some (.ref 0), some (.ref 1), some (.ref 76), some (.ref 114), some (.int (x4 + (6 : Int32))), some (.int q70.1), some (.int q71.1), none], [], (iq_sh l, q71.2, q70.2.1, q70.2.2))) (fun _ => rfl) ?_
        cases h
        exact iq_G_fg (L := [some (.ref 0), some (.ref 1), some (.ref 76), some (.ref 114), some (.int (x4 + (6 : Int32))), none, none, none]) (And.intro rfl (And.intro rfl (And.intro rfl (And.intro rfl (And.intro rfl trivial))))) (hc ((x4 + (6 : Int32)), q71.2, q70.2.1, q70.2.2) rfl)
      · refine iq_G_neg (c := (lg_cmp (q70.2.1 114 0) (Int32.toInt64 q71.1)) = 0) (σ1 := (1690, [some (.ref 0), some (.ref 1), some (.ref 76), some (.ref 114), some (.int x4), some (.int q70.1), some (.int q71.1), none], [], (iq_sh l, q71.2, q70.2.1, q70.2.2))) (fun _ => rfl) hc_ ?_
        refine iq_G_go (k := 1) (σ' := (1691, [some (.ref 0), some (.ref 1), some (.ref 76), some (.ref 114), some (.int x4), some (.int q70.1), some (.int q71.1), none], [.int (0 : Int32)], (iq_sh l, q71.2, q70.2.1, q70.2.2))) (fun _ => rfl) ?_
        cases h
        obtain rfl := (hx _ rfl).2 _ rfl
        exact iq_G_ret (fun _ => rfl)
  · refine iq_G_neg (c := q72 = q70.1) (σ1 := (1673, [some (.ref 0), some (.ref 1), some (.ref 76), some (.ref 114), some (.int x4), some (.int q70.1), some (.int q71.1), none], [], (iq_sh l, q71.2, q70.2.1, q70.2.2))) (fun _ => rfl) hc_ ?_
    refine iq_G_go (k := 1) (σ' := (1674, [some (.ref 0), some (.ref 1), some (.ref 76), some (.ref 114), some (.int x4), some (.int q70.1), some (.int q71.1), none], [.int (0 : Int32)], (iq_sh l, q71.2, q70.2.1, q70.2.2))) (fun _ => rfl) ?_
    cases h
    obtain rfl := (hx _ rfl).2 _ rfl
    exact iq_G_ret (fun _ => rfl)
set_option maxRecDepth 100000 in
theorem zL_law_1695_ok (l : Nat)  (x4 : Int32) (I : iq_I) (J : iq_J) (X : iq_X)  {q : (Int32 × iq_I × iq_J × iq_X) ⊕ ((iq_I × iq_J × iq_X) ⊕ (Int32 × iq_I × iq_J × iq_X))} (h : zL_law_1695 l x4 I J X = some q) (r : iq_R × iq_M) (hc : ∀ v, q = .inl v → iq_Gg 72 357 (23, [some (.ref 0), some (.ref 1), some (.ref 76), some (.ref 114), some (.int v.1), none, none, none], [], (iq_sh l, v.2.1, v.2.2.1, v.2.2.2)) r) (hx : ∀ w, q = .inr w → (∀ a, w = .inl a → iq_Gg 72 357 (2530, [none, none, none, none, none, none, none, none], [], (iq_sh l, a.1, a.2.1, a.2.2)) r) ∧ (∀ b, w = .inr b → r = (.inl (some (.int b.1)), (iq_sh l, b.2.1, b.2.2.1, b.2.2.2)))) : iq_Gg 72 357 (1695, [some (.ref 0), some (.ref 1), some (.ref 76), some (.ref 114), some (.int x4), none, none, none], [], (iq_sh l, I, J, X)) r := by
  unfold zL_law_1695 at h
  refine iq_G_go (k := 5) (σ' := (1701, [some (.ref 0), some (.ref 1), some (.ref 76), some (.ref 114), some (.int x4), none, none, none], [.int (x4 + (1 : Int32)), .ref 0, .ref 1], (iq_sh l, I, J, X))) (fun _ => rfl) ?_
  obtain ⟨hc_, h⟩ := iq_itn h
  refine iq_G_pos (c := iq_in (x4 + (1 : Int32)) l) (σ1 := (1702, [some (.ref 0), some (.ref 1), some (.ref 76), some (.ref 114), some (.int x4), none, none, none], [.int (I 0 (Int32.toNatClampNeg (x4 + (1 : Int32)))), .ref 1], (iq_sh l, I, J, X))) (fun _ => rfl) hc_ ?_
  refine iq_G_go (k := 4) (σ' := (1707, [some (.ref 0), some (.ref 1), some (.ref 76), some (.ref 114), some (.int x4), none, none, none], [.int (x4 + (2 : Int32)), .ref 0, .int (I 0 (Int32.toNatClampNeg (x4 + (1 : Int32)))), .ref 1], (iq_sh l, I, J, X))) (fun _ => rfl) ?_
  obtain ⟨hc_, h⟩ := iq_itn h
  refine iq_G_pos (c := iq_in (x4 + (2 : Int32)) l) (σ1 := (1708, [some (.ref 0), some (.ref 1), some (.ref 76), some (.ref 114), some (.int x4), none, none, none], [.int (I 0 (Int32.toNatClampNeg (x4 + (2 : Int32)))), .int (I 0 (Int32.toNatClampNeg (x4 + (1 : Int32)))), .ref 1], (iq_sh l, I, J, X))) (fun _ => rfl) hc_ ?_
  refine iq_G_go (k := 1) (σ' := (1709, [some (.ref 0), some (.ref 1), some (.ref 76), some (.ref 114), some (.int x4), none, none, none], [.ref 114, .int (I 0 (Int32.toNatClampNeg (x4 + (2 : Int32)))), .int (I 0 (Int32.toNatClampNeg (x4 + (1 : Int32)))), .ref 1], (iq_sh l, I, J, X))) (fun _ => rfl) ?_
  obtain ⟨q73, hq73, h⟩ := iq_bnd h
  refine iq_G_call (σ' := (1712, [some (.ref 0), some (.ref 1), some (.ref 76), some (.ref 114), some (.int x4), none, none, none], [.int q73.1], (iq_sh l, q73.2.1, q73.2.2.1, q73.2.2.2))) (fun _ => rfl) (zL_alike_ok l (I 0 (Int32.toNatClampNeg (x4 + (1 : Int32)))) (I 0 (Int32.toNatClampNeg (x4 + (2 : Int32)))) I J X hq73) rfl rfl ?_
  refine iq_G_go (k := 6) (σ' := (1720, [some (.ref 0), some (.ref 1), some (.ref 76), some (.ref 114), some (.int x4), some (.int q73.1), none, none], [.int (x4 + (1 : Int32)), .ref 0, .ref 76], (iq_sh l, q73.2.1, q73.2.2.1, q73.2.2.2))) (fun _ => rfl) ?_
  obtain ⟨hc_, h⟩ := iq_itn h
  refine iq_G_pos (c := iq_in (x4 + (1 : Int32)) l) (σ1 := (1721, [some (.ref 0), some (.ref 1), some (.ref 76), some (.ref 114), some (.int x4), some (.int q73.1), none, none], [.int (q73.2.1 0 (Int32.toNatClampNeg (x4 + (1 : Int32)))), .ref 76], (iq_sh l, q73.2.1, q73.2.2.1, q73.2.2.2))) (fun _ => rfl) hc_ ?_
  refine iq_G_go (k := 4) (σ' := (1726, [some (.ref 0), some (.ref 1), some (.ref 76), some (.ref 114), some (.int x4), some (.int q73.1), none, none], [.int (x4 + (2 : Int32)), .ref 0, .int (q73.2.1 0 (Int32.toNatClampNeg (x4 + (1 : Int32)))), .ref 76], (iq_sh l, q73.2.1, q73.2.2.1, q73.2.2.2))) (fun _ => rfl) ?_
  obtain ⟨hc_, h⟩ := iq_itn h
  refine iq_G_pos (c := iq_in (x4 + (2 : Int32)) l) (σ1 := (1727, [some (.ref 0), some (.ref 1), some (.ref 76), some (.ref 114), some (.int x4), some (.int q73.1), none, none], [.int (q73.2.1 0 (Int32.toNatClampNeg (x4 + (2 : Int32)))), .int (q73.2.1 0 (Int32.toNatClampNeg (x4 + (1 : Int32)))), .ref 76], (iq_sh l, q73.2.1, q73.2.2.1, q73.2.2.2))) (fun _ => rfl) hc_ ?_
  obtain ⟨q74, hq74, h⟩ := iq_bnd h
  refine iq_G_call (σ' := (1730, [some (.ref 0), some (.ref 1), some (.ref 76), some (.ref 114), some (.int x4), some (.int q73.1), none, none], [.int q74.1], (iq_sh l, q74.2, q73.2.2.1, q73.2.2.2))) (fun _ => rfl) (zM_alike_ok l (q73.2.1 0 (Int32.toNatClampNeg (x4 + (1 : Int32)))) (q73.2.1 0 (Int32.toNatClampNeg (x4 + (2 : Int32)))) q73.2.1 q73.2.2.1 q73.2.2.2 hq74) rfl rfl ?_
  refine iq_G_go (k := 2) (σ' := (1733, [some (.ref 0), some (.ref 1), some (.ref 76), some (.ref 114), some (.int x4), some (.int q73.1), some (.int q74.1), none], [.ref 76], (iq_sh l, q74.2, q73.2.2.1, q73.2.2.2))) (fun _ => rfl) ?_
  obtain ⟨q75, hq75, h⟩ := iq_bnd h
  refine iq_G_call (σ' := (1736, [some (.ref 0), some (.ref 1), some (.ref 76), some (.ref 114), some (.int x4), some (.int q73.1), some (.int q74.1), none], [.int q75], (iq_sh l, q74.2, q73.2.2.1, q73.2.2.2))) (fun _ => rfl) (zM_thrown_ok l  q74.2 q73.2.2.1 q73.2.2.2 hq75) rfl rfl ?_
  refine iq_G_go (k := 1) (σ' := (1738, [some (.ref 0), some (.ref 1), some (.ref 76), some (.ref 114), some (.int x4), some (.int q73.1), some (.int q74.1), none], [.int q73.1, .int q75], (iq_sh l, q74.2, q73.2.2.1, q73.2.2.2))) (fun _ => rfl) ?_
  rcases iq_ite h with ⟨hc_, h⟩ | ⟨hc_, h⟩
  · refine iq_G_pos (c := q75 = q73.1) (σ1 := (1743, [some (.ref 0), some (.ref 1), some (.ref 76), some (.ref 114), some (.int x4), some (.int q73.1), some (.int q74.1), none], [], (iq_sh l, q74.2, q73.2.2.1, q73.2.2.2))) (fun _ => rfl) hc_ ?_
    refine iq_G_go (k := 1) (σ' := (1745, [some (.ref 0), some (.ref 1), some (.ref 76), some (.ref 114), some (.int x4), some (.int q73.1), some (.int q74.1), none], [.int q73.1], (iq_sh l, q74.2, q73.2.2.1, q73.2.2.2))) (fun _ => rfl) ?_
    rcases iq_ite h with ⟨hc_, h⟩ | ⟨hc_, h⟩
    · refine iq_G_pos (c := ¬ q73.1 = 0) (σ1 := (1760, [some (.ref 0), some (.ref 1), some (.ref 76), some (.ref 114), some (.int x4), some (.int q73.1), some (.int q74.1), none], [], (iq_sh l, q74.2, q73.2.2.1, q73.2.2.2))) (fun _ => rfl) hc_ ?_
      refine iq_G_go (k := 1) (σ' := (2524, [some (.ref 0), some (.ref 1), some (.ref 76), some (.ref 114), some (.int x4), some (.int q73.1), some (.int q74.1), none], [], (iq_sh l, q74.2, q73.2.2.1, q73.2.2.2))) (fun _ => rfl) ?_
      refine iq_G_go (k := 2) (σ' := (23, [some (.ref 0), some (.ref 1), some (.ref 76), some (.ref 114), some (.int (x4 + (6 : Int32))), some (.int q73.1), some (.int q74.1), none], [], (iq_sh l, q74.2, q73.2.2.1, q73.2.2.2))) (fun _ => rfl) ?_
      cases h
      exact iq_G_fg (L := [some (.ref 0), some (.ref 1), some (.ref 76), some (.ref 114), some (.int (x4 + (6 : Int32))), none, none, none]) (And.intro rfl (And.intro rfl (And.intro rfl (And.intro rfl (And.intro rfl trivial))))) (hc ((x4 + (6 : Int32)), q74.2, q73.2.2.1, q73.2.2.2) rfl)
    · refine iq_G_neg (c := ¬ q73.1 = 0) (σ1 := (1748, [some (.ref 0), some (.ref 1), some (.ref 76), some (.ref 114), some (.int x4), some (.int q73.1), some (.int q74.1), none], [], (iq_sh l, q74.2, q73.2.2.1, q73.2.2.2))) (fun _ => rfl) hc_ ?_
      refine iq_G_go (k := 2) (σ' := (1750, [some (.ref 0), some (.ref 1), some (.ref 76), some (.ref 114), some (.int x4), some (.int q73.1), some (.int q74.1), none], [.int (0 : Int32), .ref 114], (iq_sh l, q74.2, q73.2.2.1, q73.2.2.2))) (fun _ => rfl) ?_
      refine iq_G_go (k := 1) (σ' := (1751, [some (.ref 0), some (.ref 1), some (.ref 76), some (.ref 114), some (.int x4), some (.int q73.1), some (.int q74.1), none], [.long (q73.2.2.1 114 0)], (iq_sh l, q74.2, q73.2.2.1, q73.2.2.2))) (fun _ => rfl) ?_
      refine iq_G_go (k := 3) (σ' := (1755, [some (.ref 0), some (.ref 1), some (.ref 76), some (.ref 114), some (.int x4), some (.int q73.1), some (.int q74.1), none], [.int (lg_cmp (q73.2.2.1 114 0) (Int32.toInt64 q74.1))], (iq_sh l, q74.2, q73.2.2.1, q73.2.2.2))) (fun _ => rfl) ?_
      rcases iq_ite h with ⟨hc_, h⟩ | ⟨hc_, h⟩
      · refine iq_G_pos (c := (lg_cmp (q73.2.2.1 114 0) (Int32.toInt64 q74.1)) = 0) (σ1 := (1760, [some (.ref 0), some (.ref 1), some (.ref 76), some (.ref 114), some (.int x4), some (.int q73.1), some (.int q74.1), none], [], (iq_sh l, q74.2, q73.2.2.1, q73.2.2.2))) (fun _ => rfl) hc_ ?_
        refine iq_G_go (k := 1) (σ' := (2524, [some (.ref 0), some (.ref 1), some (.ref 76), some (.ref 114), some (.int x4), some (.int q73.1), some (.int q74.1), none], [], (iq_sh l, q74.2, q73.2.2.1, q73.2.2.2))) (fun _ => rfl) ?_
        refine iq_G_go (k := 2) (σ' := (23, [some (.ref 0), some (.ref 1), some (.ref 76), some (.ref 114), some (.int (x4 + (6 : Int32))), some (.int q73.1), some (.int q74.1), none], [], (iq_sh l, q74.2, q73.2.2.1, q73.2.2.2))) (fun _ => rfl) ?_
        cases h
        exact iq_G_fg (L := [some (.ref 0), some (.ref 1), some (.ref 76), some (.ref 114), some (.int (x4 + (6 : Int32))), none, none, none]) (And.intro rfl (And.intro rfl (And.intro rfl (And.intro rfl (And.intro rfl trivial))))) (hc ((x4 + (6 : Int32)), q74.2, q73.2.2.1, q73.2.2.2) rfl)
      · refine iq_G_neg (c := (lg_cmp (q73.2.2.1 114 0) (Int32.toInt64 q74.1)) = 0) (σ1 := (1758, [some (.ref 0), some (.ref 1), some (.ref 76), some (.ref 114), some (.int x4), some (.int q73.1), some (.int q74.1), none], [], (iq_sh l, q74.2, q73.2.2.1, q73.2.2.2))) (fun _ => rfl) hc_ ?_
        refine iq_G_go (k := 1) (σ' := (1759, [some (.ref 0), some (.ref 1), some (.ref 76), some (.ref 114), some (.int x4), some (.int q73.1), some (.int q74.1), none], [.int (0 : Int32)], (iq_sh l, q74.2, q73.2.2.1, q73.2.2.2))) (fun _ => rfl) ?_
        cases h
        obtain rfl := (hx _ rfl).2 _ rfl
        exact iq_G_ret (fun _ => rfl)
  · refine iq_G_neg (c := q75 = q73.1) (σ1 := (1741, [some (.ref 0), some (.ref 1), some (.ref 76), some (.ref 114), some (.int x4), some (.int q73.1), some (.int q74.1), none], [], (iq_sh l, q74.2, q73.2.2.1, q73.2.2.2))) (fun _ => rfl) hc_ ?_
    refine iq_G_go (k := 1) (σ' := (1742, [some (.ref 0), some (.ref 1), some (.ref 76), some (.ref 114), some (.int x4), some (.int q73.1), some (.int q74.1), none], [.int (0 : Int32)], (iq_sh l, q74.2, q73.2.2.1, q73.2.2.2))) (fun _ => rfl) ?_
    cases h
    obtain rfl := (hx _ rfl).2 _ rfl
    exact iq_G_ret (fun _ => rfl)
set_option maxRecDepth 100000 in
theorem zL_law_1763_ok (l : Nat)  (x4 : Int32) (I : iq_I) (J : iq_J) (X : iq_X)  {q : (Int32 × iq_I × iq_J × iq_X) ⊕ ((iq_I × iq_J × iq_X) ⊕ (Int32 × iq_I × iq_J × iq_X))} (h : zL_law_1763 l x4 I J X = some q) (r : iq_R × iq_M) (hc : ∀ v, q = .inl v → iq_Gg 72 357 (23, [some (.ref 0), some (.ref 1), some (.ref 76), some (.ref 114), some (.int v.1), none, none, none], [], (iq_sh l, v.2.1, v.2.2.1, v.2.2.2)) r) (hx : ∀ w, q = .inr w → (∀ a, w = .inl a → iq_Gg 72 357 (2530, [none, none, none, none, none, none, none, none], [], (iq_sh l, a.1, a.2.1, a.2.2)) r) ∧ (∀ b, w = .inr b → r = (.inl (some (.int b.1)), (iq_sh l, b.2.1, b.2.2.1, b.2.2.2)))) : iq_Gg 72 357 (1763, [some (.ref 0), some (.ref 1), some (.ref 76), some (.ref 114), some (.int x4), none, none, none], [], (iq_sh l, I, J, X)) r := by
  unfold zL_law_1763 at h
  refine iq_G_go (k := 1) (σ' := (1764, [some (.ref 0), some (.ref 1), some (.ref 76), some (.ref 114), some (.int x4), none, none, none], [.ref 1], (iq_sh l, I, J, X))) (fun _ => rfl) ?_
  obtain ⟨q76, hq76, h⟩ := iq_bnd h
  refine iq_G_call (σ' := (1767, [some (.ref 0), some (.ref 1), some (.ref 76), some (.ref 114), some (.int x4), none, none, none], [.int q76.1], (iq_sh l, q76.2, J, X))) (fun _ => rfl) (zO_nearest_ok l  I J X hq76) rfl rfl ?_
  refine iq_G_go (k := 1) (σ' := (1768, [some (.ref 0), some (.ref 1), some (.ref 76), some (.ref 114), some (.int x4), none, none, none], [.ref 76, .int q76.1], (iq_sh l, q76.2, J, X))) (fun _ => rfl) ?_
  obtain ⟨q77, hq77, h⟩ := iq_bnd h
  refine iq_G_call (σ' := (1771, [some (.ref 0), some (.ref 1), some (.ref 76), some (.ref 114), some (.int x4), none, none, none], [.int q77.1, .int q76.1], (iq_sh l, q77.2, J, X))) (fun _ => rfl) (zM_nearest_ok l  q76.2 J X hq77) rfl rfl ?_
  rcases iq_ite h with ⟨hc_, h⟩ | ⟨hc_, h⟩
  · refine iq_G_pos (c := q76.1 = q77.1) (σ1 := (2524, [some (.ref 0), some (.ref 1), some (.ref 76), some (.ref 114), some (.int x4), none, none, none], [], (iq_sh l, q77.2, J, X))) (fun _ => rfl) hc_ ?_
    refine iq_G_go (k := 2) (σ' := (23, [some (.ref 0), some (.ref 1), some (.ref 76), some (.ref 114), some (.int (x4 + (6 : Int32))), none, none, none], [], (iq_sh l, q77.2, J, X))) (fun _ => rfl) ?_
    cases h
    exact iq_G_fg (L := [some (.ref 0), some (.ref 1), some (.ref 76), some (.ref 114), some (.int (x4 + (6 : Int32))), none, none, none]) (And.intro rfl (And.intro rfl (And.intro rfl (And.intro rfl (And.intro rfl trivial))))) (hc ((x4 + (6 : Int32)), q77.2, J, X) rfl)
  · refine iq_G_neg (c := q76.1 = q77.1) (σ1 := (1774, [some (.ref 0), some (.ref 1), some (.ref 76), some (.ref 114), some (.int x4), none, none, none], [], (iq_sh l, q77.2, J, X))) (fun _ => rfl) hc_ ?_
    refine iq_G_go (k := 1) (σ' := (1775, [some (.ref 0), some (.ref 1), some (.ref 76), some (.ref 114), some (.int x4), none, none, none], [.int (0 : Int32)], (iq_sh l, q77.2, J, X))) (fun _ => rfl) ?_
    cases h
    obtain rfl := (hx _ rfl).2 _ rfl
    exact iq_G_ret (fun _ => rfl)
set_option maxRecDepth 100000 in
theorem zL_law_1776_ok (l : Nat)  (x4 : Int32) (I : iq_I) (J : iq_J) (X : iq_X)  {q : (Int32 × iq_I × iq_J × iq_X) ⊕ ((iq_I × iq_J × iq_X) ⊕ (Int32 × iq_I × iq_J × iq_X))} (h : zL_law_1776 l x4 I J X = some q) (r : iq_R × iq_M) (hc : ∀ v, q = .inl v → iq_Gg 72 357 (23, [some (.ref 0), some (.ref 1), some (.ref 76), some (.ref 114), some (.int v.1), none, none, none], [], (iq_sh l, v.2.1, v.2.2.1, v.2.2.2)) r) (hx : ∀ w, q = .inr w → (∀ a, w = .inl a → iq_Gg 72 357 (2530, [none, none, none, none, none, none, none, none], [], (iq_sh l, a.1, a.2.1, a.2.2)) r) ∧ (∀ b, w = .inr b → r = (.inl (some (.int b.1)), (iq_sh l, b.2.1, b.2.2.1, b.2.2.2)))) : iq_Gg 72 357 (1776, [some (.ref 0), some (.ref 1), some (.ref 76), some (.ref 114), some (.int x4), none, none, none], [], (iq_sh l, I, J, X)) r := by
  unfold zL_law_1776 at h
  refine iq_G_go (k := 5) (σ' := (1782, [some (.ref 0), some (.ref 1), some (.ref 76), some (.ref 114), some (.int x4), none, none, none], [.int (x4 + (1 : Int32)), .ref 0, .ref 1], (iq_sh l, I, J, X))) (fun _ => rfl) ?_
  obtain ⟨hc_, h⟩ := iq_itn h
  refine iq_G_pos (c := iq_in (x4 + (1 : Int32)) l) (σ1 := (1783, [some (.ref 0), some (.ref 1), some (.ref 76), some (.ref 114), some (.int x4), none, none, none], [.int (I 0 (Int32.toNatClampNeg (x4 + (1 : Int32)))), .ref 1], (iq_sh l, I, J, X))) (fun _ => rfl) hc_ ?_
  refine iq_G_go (k := 4) (σ' := (1788, [some (.ref 0), some (.ref 1), some (.ref 76), some (.ref 114), some (.int x4), none, none, none], [.int (x4 + (2 : Int32)), .ref 0, .int (I 0 (Int32.toNatClampNeg (x4 + (1 : Int32)))), .ref 1], (iq_sh l, I, J, X))) (fun _ => rfl) ?_
  obtain ⟨hc_, h⟩ := iq_itn h
  refine iq_G_pos (c := iq_in (x4 + (2 : Int32)) l) (σ1 := (1789, [some (.ref 0), some (.ref 1), some (.ref 76), some (.ref 114), some (.int x4), none, none, none], [.int (I 0 (Int32.toNatClampNeg (x4 + (2 : Int32)))), .int (I 0 (Int32.toNatClampNeg (x4 + (1 : Int32)))), .ref 1], (iq_sh l, I, J, X))) (fun _ => rfl) hc_ ?_
  refine iq_G_go (k := 1) (σ' := (1790, [some (.ref 0), some (.ref 1), some (.ref 76), some (.ref 114), some (.int x4), none, none, none], [.ref 114, .int (I 0 (Int32.toNatClampNeg (x4 + (2 : Int32)))), .int (I 0 (Int32.toNatClampNeg (x4 + (1 : Int32)))), .ref 1], (iq_sh l, I, J, X))) (fun _ => rfl) ?_
  obtain ⟨q78, hq78, h⟩ := iq_bnd h
  refine iq_G_call (σ' := (1793, [some (.ref 0), some (.ref 1), some (.ref 76), some (.ref 114), some (.int x4), none, none, none], [.int q78.1], (iq_sh l, I, q78.2.1, q78.2.2))) (fun _ => rfl) (zL_culprit_ok l (I 0 (Int32.toNatClampNeg (x4 + (1 : Int32)))) (I 0 (Int32.toNatClampNeg (x4 + (2 : Int32)))) I J X hq78) rfl rfl ?_
  refine iq_G_go (k := 6) (σ' := (1801, [some (.ref 0), some (.ref 1), some (.ref 76), some (.ref 114), some (.int x4), some (.int q78.1), none, none], [.int (x4 + (1 : Int32)), .ref 0, .ref 76], (iq_sh l, I, q78.2.1, q78.2.2))) (fun _ => rfl) ?_
  obtain ⟨hc_, h⟩ := iq_itn h
  refine iq_G_pos (c := iq_in (x4 + (1 : Int32)) l) (σ1 := (1802, [some (.ref 0), some (.ref 1), some (.ref 76), some (.ref 114), some (.int x4), some (.int q78.1), none, none], [.int (I 0 (Int32.toNatClampNeg (x4 + (1 : Int32)))), .ref 76], (iq_sh l, I, q78.2.1, q78.2.2))) (fun _ => rfl) hc_ ?_
  refine iq_G_go (k := 4) (σ' := (1807, [some (.ref 0), some (.ref 1), some (.ref 76), some (.ref 114), some (.int x4), some (.int q78.1), none, none], [.int (x4 + (2 : Int32)), .ref 0, .int (I 0 (Int32.toNatClampNeg (x4 + (1 : Int32)))), .ref 76], (iq_sh l, I, q78.2.1, q78.2.2))) (fun _ => rfl) ?_
  obtain ⟨hc_, h⟩ := iq_itn h
  refine iq_G_pos (c := iq_in (x4 + (2 : Int32)) l) (σ1 := (1808, [some (.ref 0), some (.ref 1), some (.ref 76), some (.ref 114), some (.int x4), some (.int q78.1), none, none], [.int (I 0 (Int32.toNatClampNeg (x4 + (2 : Int32)))), .int (I 0 (Int32.toNatClampNeg (x4 + (1 : Int32)))), .ref 76], (iq_sh l, I, q78.2.1, q78.2.2))) (fun _ => rfl) hc_ ?_
  obtain ⟨q79, hq79, h⟩ := iq_bnd h
  refine iq_G_call (σ' := (1811, [some (.ref 0), some (.ref 1), some (.ref 76), some (.ref 114), some (.int x4), some (.int q78.1), none, none], [.int q79.1], (iq_sh l, q79.2, q78.2.1, q78.2.2))) (fun _ => rfl) (zM_culprit_ok l (I 0 (Int32.toNatClampNeg (x4 + (1 : Int32)))) (I 0 (Int32.toNatClampNeg (x4 + (2 : Int32)))) I q78.2.1 q78.2.2 hq79) rfl rfl ?_
  refine iq_G_go (k := 2) (σ' := (1814, [some (.ref 0), some (.ref 1), some (.ref 76), some (.ref 114), some (.int x4), some (.int q78.1), some (.int q79.1), none], [.ref 76], (iq_sh l, q79.2, q78.2.1, q78.2.2))) (fun _ => rfl) ?_
  obtain ⟨q80, hq80, h⟩ := iq_bnd h
  refine iq_G_call (σ' := (1817, [some (.ref 0), some (.ref 1), some (.ref 76), some (.ref 114), some (.int x4), some (.int q78.1), some (.int q79.1), none], [.int q80], (iq_sh l, q79.2, q78.2.1, q78.2.2))) (fun _ => rfl) (zM_thrown_ok l  q79.2 q78.2.1 q78.2.2 hq80) rfl rfl ?_
  refine iq_G_go (k := 1) (σ' := (1819, [some (.ref 0), some (.ref 1), some (.ref 76), some (.ref 114), some (.int x4), some (.int q78.1), some (.int q79.1), none], [.int q78.1, .int q80], (iq_sh l, q79.2, q78.2.1, q78.2.2))) (fun _ => rfl) ?_
  rcases iq_ite h with ⟨hc_, h⟩ | ⟨hc_, h⟩
  · refine iq_G_pos (c := q80 = q78.1) (σ1 := (1824, [some (.ref 0), some (.ref 1), some (.ref 76), some (.ref 114), some (.int x4), some (.int q78.1), some (.int q79.1), none], [], (iq_sh l, q79.2, q78.2.1, q78.2.2))) (fun _ => rfl) hc_ ?_
    refine iq_G_go (k := 1) (σ' := (1826, [some (.ref 0), some (.ref 1), some (.ref 76), some (.ref 114), some (.int x4), some (.int q78.1), some (.int q79.1), none], [.int q78.1], (iq_sh l, q79.2, q78.2.1, q78.2.2))) (fun _ => rfl) ?_
    rcases iq_ite h with ⟨hc_, h⟩ | ⟨hc_, h⟩
    · refine iq_G_pos (c := ¬ q78.1 = 0) (σ1 := (1841, [some (.ref 0), some (.ref 1), some (.ref 76), some (.ref 114), some (.int x4), some (.int q78.1), some (.int q79.1), none], [], (iq_sh l, q79.2, q78.2.1, q78.2.2))) (fun _ => rfl) hc_ ?_
      refine iq_G_go (k := 1) (σ' := (2524, [some (.ref 0), some (.ref 1), some (.ref 76), some (.ref 114), some (.int x4), some (.int q78.1), some (.int q79.1), none], [], (iq_sh l, q79.2, q78.2.1, q78.2.2))) (fun _ => rfl) ?_
      refine iq_G_go (k := 2) (σ' := (23, [some (.ref 0), some (.ref 1), some (.ref 76), some (.ref 114), some (.int (x4 + (6 : Int32))), some (.int q78.1), some (.int q79.1), none], [], (iq_sh l, q79.2, q78.2.1, q78.2.2))) (fun _ => rfl) ?_
      cases h
      exact iq_G_fg (L := [some (.ref 0), some (.ref 1), some (.ref 76), some (.ref 114), some (.int (x4 + (6 : Int32))), none, none, none]) (And.intro rfl (And.intro rfl (And.intro rfl (And.intro rfl (And.intro rfl trivial))))) (hc ((x4 + (6 : Int32)), q79.2, q78.2.1, q78.2.2) rfl)
    · refine iq_G_neg (c := ¬ q78.1 = 0) (σ1 := (1829, [some (.ref 0), some (.ref 1), some (.ref 76), some (.ref 114), some (.int x4), some (.int q78.1), some (.int q79.1), none], [], (iq_sh l, q79.2, q78.2.1, q78.2.2))) (fun _ => rfl) hc_ ?_
      refine iq_G_go (k := 2) (σ' := (1831, [some (.ref 0), some (.ref 1), some (.ref 76), some (.ref 114), some (.int x4), some (.int q78.1), some (.int q79.1), none], [.int (0 : Int32), .ref 114], (iq_sh l, q79.2, q78.2.1, q78.2.2))) (fun _ => rfl) ?_
      refine iq_G_go (k := 1) (σ' := (1832, [some (.ref 0), some (.ref 1), some (.ref 76), some (.ref 114), some (.int x4), some (.int q78.1), some (.int q79.1), none], [.long (q78.2.1 114 0)], (iq_sh l, q79.2, q78.2.1, q78.2.2))) (fun _ => rfl) ?_
      refine iq_G_go (k := 3) (σ' := (1836, [some (.ref 0), some (.ref 1), some (.ref 76), some (.ref 114), some (.int x4), some (.int q78.1), some (.int q79.1), none], [.int (lg_cmp (q78.2.1 114 0) (Int32.toInt64 q79.1))], (iq_sh l, q79.2, q78.2.1, q78.2.2))) (fun _ => rfl) ?_
      rcases iq_ite h with ⟨hc_, h⟩ | ⟨hc_, h⟩
      · refine iq_G_pos (c := (lg_cmp (q78.2.1 114 0) (Int32.toInt64 q79.1)) = 0) (σ1 := (1841, [some (.ref 0), some (.ref 1), some (.ref 76), some (.ref 114), some (.int x4), some (.int q78.1), some (.int q79.1), none], [], (iq_sh l, q79.2, q78.2.1, q78.2.2))) (fun _ => rfl) hc_ ?_
        refine iq_G_go (k := 1) (σ' := (2524, [some (.ref 0), some (.ref 1), some (.ref 76), some (.ref 114), some (.int x4), some (.int q78.1), some (.int q79.1), none], [], (iq_sh l, q79.2, q78.2.1, q78.2.2))) (fun _ => rfl) ?_
        refine iq_G_go (k := 2) (σ' := (23, [some (.ref 0), some (.ref 1), some (.ref 76), some (.ref 114), some (.int (x4 + (6 : Int32))), some (.int q78.1), some (.int q79.1), none], [], (iq_sh l, q79.2, q78.2.1, q78.2.2))) (fun _ => rfl) ?_
        cases h
        exact iq_G_fg (L := [some (.ref 0), some (.ref 1), some (.ref 76), some (.ref 114), some (.int (x4 + (6 : Int32))), none, none, none]) (And.intro rfl (And.intro rfl (And.intro rfl (And.intro rfl (And.intro rfl trivial))))) (hc ((x4 + (6 : Int32)), q79.2, q78.2.1, q78.2.2) rfl)
      · refine iq_G_neg (c := (lg_cmp (q78.2.1 114 0) (Int32.toInt64 q79.1)) = 0) (σ1 := (1839, [some (.ref 0), some (.ref 1), some (.ref 76), some (.ref 114), some (.int x4), some (.int q78.1), some (.int q79.1), none], [], (iq_sh l, q79.2, q78.2.1, q78.2.2))) (fun _ => rfl) hc_ ?_
        refine iq_G_go (k := 1) (σ' := (1840, [some (.ref 0), some (.ref 1), some (.ref 76), some (.ref 114), some (.int x4), some (.int q78.1), some (.int q79.1), none], [.int (0 : Int32)], (iq_sh l, q79.2, q78.2.1, q78.2.2))) (fun _ => rfl) ?_
        cases h
        obtain rfl := (hx _ rfl).2 _ rfl
        exact iq_G_ret (fun _ => rfl)
  · refine iq_G_neg (c := q80 = q78.1) (σ1 := (1822, [some (.ref 0), some (.ref 1), some (.ref 76), some (.ref 114), some (.int x4), some (.int q78.1), some (.int q79.1), none], [], (iq_sh l, q79.2, q78.2.1, q78.2.2))) (fun _ => rfl) hc_ ?_
    refine iq_G_go (k := 1) (σ' := (1823, [some (.ref 0), some (.ref 1), some (.ref 76), some (.ref 114), some (.int x4), some (.int q78.1), some (.int q79.1), none], [.int (0 : Int32)], (iq_sh l, q79.2, q78.2.1, q78.2.2))) (fun _ => rfl) ?_
    cases h
    obtain rfl := (hx _ rfl).2 _ rfl
    exact iq_G_ret (fun _ => rfl)
set_option maxRecDepth 100000 in
theorem zL_law_1844_ok (l : Nat)  (x4 : Int32) (I : iq_I) (J : iq_J) (X : iq_X)  {q : (Int32 × iq_I × iq_J × iq_X) ⊕ ((iq_I × iq_J × iq_X) ⊕ (Int32 × iq_I × iq_J × iq_X))} (h : zL_law_1844 l x4 I J X = some q) (r : iq_R × iq_M) (hc : ∀ v, q = .inl v → iq_Gg 72 357 (23, [some (.ref 0), some (.ref 1), some (.ref 76), some (.ref 114), some (.int v.1), none, none, none], [], (iq_sh l, v.2.1, v.2.2.1, v.2.2.2)) r) (hx : ∀ w, q = .inr w → (∀ a, w = .inl a → iq_Gg 72 357 (2530, [none, none, none, none, none, none, none, none], [], (iq_sh l, a.1, a.2.1, a.2.2)) r) ∧ (∀ b, w = .inr b → r = (.inl (some (.int b.1)), (iq_sh l, b.2.1, b.2.2.1, b.2.2.2)))) : iq_Gg 72 357 (1844, [some (.ref 0), some (.ref 1), some (.ref 76), some (.ref 114), some (.int x4), none, none, none], [], (iq_sh l, I, J, X)) r := by
  unfold zL_law_1844 at h
  refine iq_G_go (k := 5) (σ' := (1850, [some (.ref 0), some (.ref 1), some (.ref 76), some (.ref 114), some (.int x4), none, none, none], [.int (x4 + (1 : Int32)), .ref 0, .ref 1], (iq_sh l, I, J, X))) (fun _ => rfl) ?_
  obtain ⟨hc_, h⟩ := iq_itn h
  refine iq_G_pos (c := iq_in (x4 + (1 : Int32)) l) (σ1 := (1851, [some (.ref 0), some (.ref 1), some (.ref 76), some (.ref 114), some (.int x4), none, none, none], [.int (I 0 (Int32.toNatClampNeg (x4 + (1 : Int32)))), .ref 1], (iq_sh l, I, J, X))) (fun _ => rfl) hc_ ?_
  refine iq_G_go (k := 4) (σ' := (1856, [some (.ref 0), some (.ref 1), some (.ref 76), some (.ref 114), some (.int x4), none, none, none], [.int (x4 + (2 : Int32)), .ref 0, .int (I 0 (Int32.toNatClampNeg (x4 + (1 : Int32)))), .ref 1], (iq_sh l, I, J, X))) (fun _ => rfl) ?_
  obtain ⟨hc_, h⟩ := iq_itn h
  refine iq_G_pos (c := iq_in (x4 + (2 : Int32)) l) (σ1 := (1857, [some (.ref 0), some (.ref 1), some (.ref 76), some (.ref 114), some (.int x4), none, none, none], [.int (I 0 (Int32.toNatClampNeg (x4 + (2 : Int32)))), .int (I 0 (Int32.toNatClampNeg (x4 + (1 : Int32)))), .ref 1], (iq_sh l, I, J, X))) (fun _ => rfl) hc_ ?_
  refine iq_G_go (k := 4) (σ' := (1862, [some (.ref 0), some (.ref 1), some (.ref 76), some (.ref 114), some (.int x4), none, none, none], [.int (x4 + (3 : Int32)), .ref 0, .int (I 0 (Int32.toNatClampNeg (x4 + (2 : Int32)))), .int (I 0 (Int32.toNatClampNeg (x4 + (1 : Int32)))), .ref 1], (iq_sh l, I, J, X))) (fun _ => rfl) ?_
  obtain ⟨hc_, h⟩ := iq_itn h
  refine iq_G_pos (c := iq_in (x4 + (3 : Int32)) l) (σ1 := (1863, [some (.ref 0), some (.ref 1), some (.ref 76), some (.ref 114), some (.int x4), none, none, none], [.int (I 0 (Int32.toNatClampNeg (x4 + (3 : Int32)))), .int (I 0 (Int32.toNatClampNeg (x4 + (2 : Int32)))), .int (I 0 (Int32.toNatClampNeg (x4 + (1 : Int32)))), .ref 1], (iq_sh l, I, J, X))) (fun _ => rfl) hc_ ?_
  refine iq_G_go (k := 1) (σ' := (1864, [some (.ref 0), some (.ref 1), some (.ref 76), some (.ref 114), some (.int x4), none, none, none], [.ref 114, .int (I 0 (Int32.toNatClampNeg (x4 + (3 : Int32)))), .int (I 0 (Int32.toNatClampNeg (x4 + (2 : Int32)))), .int (I 0 (Int32.toNatClampNeg (x4 + (1 : Int32)))), .ref 1], (iq_sh l, I, J, X))) (fun _ => rfl) ?_
  obtain ⟨q81, hq81, h⟩ := iq_bnd h
  refine iq_G_call (σ' := (1867, [some (.ref 0), some (.ref 1), some (.ref 76), some (.ref 114), some (.int x4), none, none, none], [.int q81.1], (iq_sh l, q81.2.1, q81.2.2.1, q81.2.2.2))) (fun _ => rfl) (zL_season_ok l (I 0 (Int32.toNatClampNeg (x4 + (1 : Int32)))) (I 0 (Int32.toNatClampNeg (x4 + (2 : Int32)))) (I 0 (Int32.toNatClampNeg (x4 + (3 : Int32)))) I J X hq81) rfl rfl ?_
  refine iq_G_go (k := 6) (σ' := (1875, [some (.ref 0), some (.ref 1), some (.ref 76), some (.ref 114), some (.int x4), some (.int q81.1), none, none], [.int (x4 + (1 : Int32)), .ref 0, .ref 76], (iq_sh l, q81.2.1, q81.2.2.1, q81.2.2.2))) (fun _ => rfl) ?_
  obtain ⟨hc_, h⟩ := iq_itn h
  refine iq_G_pos (c := iq_in (x4 + (1 : Int32)) l) (σ1 := (1876, [some (.ref 0), some (.ref 1), some (.ref 76), some (.ref 114), some (.int x4), some (.int q81.1), none, none], [.int (q81.2.1 0 (Int32.toNatClampNeg (x4 + (1 : Int32)))), .ref 76], (iq_sh l, q81.2.1, q81.2.2.1, q81.2.2.2))) (fun _ => rfl) hc_ ?_
  refine iq_G_go (k := 4) (σ' := (1881, [some (.ref 0), some (.ref 1), some (.ref 76), some (.ref 114), some (.int x4), some (.int q81.1), none, none], [.int (x4 + (2 : Int32)), .ref 0, .int (q81.2.1 0 (Int32.toNatClampNeg (x4 + (1 : Int32)))), .ref 76], (iq_sh l, q81.2.1, q81.2.2.1, q81.2.2.2))) (fun _ => rfl) ?_
  obtain ⟨hc_, h⟩ := iq_itn h
  refine iq_G_pos (c := iq_in (x4 + (2 : Int32)) l) (σ1 := (1882, [some (.ref 0), some (.ref 1), some (.ref 76), some (.ref 114), some (.int x4), some (.int q81.1), none, none], [.int (q81.2.1 0 (Int32.toNatClampNeg (x4 + (2 : Int32)))), .int (q81.2.1 0 (Int32.toNatClampNeg (x4 + (1 : Int32)))), .ref 76], (iq_sh l, q81.2.1, q81.2.2.1, q81.2.2.2))) (fun _ => rfl) hc_ ?_
  refine iq_G_go (k := 4) (σ' := (1887, [some (.ref 0), some (.ref 1), some (.ref 76), some (.ref 114), some (.int x4), some (.int q81.1), none, none], [.int (x4 + (3 : Int32)), .ref 0, .int (q81.2.1 0 (Int32.toNatClampNeg (x4 + (2 : Int32)))), .int (q81.2.1 0 (Int32.toNatClampNeg (x4 + (1 : Int32)))), .ref 76], (iq_sh l, q81.2.1, q81.2.2.1, q81.2.2.2))) (fun _ => rfl) ?_
  obtain ⟨hc_, h⟩ := iq_itn h
  refine iq_G_pos (c := iq_in (x4 + (3 : Int32)) l) (σ1 := (1888, [some (.ref 0), some (.ref 1), some (.ref 76), some (.ref 114), some (.int x4), some (.int q81.1), none, none], [.int (q81.2.1 0 (Int32.toNatClampNeg (x4 + (3 : Int32)))), .int (q81.2.1 0 (Int32.toNatClampNeg (x4 + (2 : Int32)))), .int (q81.2.1 0 (Int32.toNatClampNeg (x4 + (1 : Int32)))), .ref 76], (iq_sh l, q81.2.1, q81.2.2.1, q81.2.2.2))) (fun _ => rfl) hc_ ?_
  obtain ⟨q82, hq82, h⟩ := iq_bnd h
  refine iq_G_call (σ' := (1891, [some (.ref 0), some (.ref 1), some (.ref 76), some (.ref 114), some (.int x4), some (.int q81.1), none, none], [.int q82.1], (iq_sh l, q82.2, q81.2.2.1, q81.2.2.2))) (fun _ => rfl) (zM_season_ok l (q81.2.1 0 (Int32.toNatClampNeg (x4 + (1 : Int32)))) (q81.2.1 0 (Int32.toNatClampNeg (x4 + (2 : Int32)))) (q81.2.1 0 (Int32.toNatClampNeg (x4 + (3 : Int32)))) q81.2.1 q81.2.2.1 q81.2.2.2 hq82) rfl rfl ?_
  refine iq_G_go (k := 2) (σ' := (1894, [some (.ref 0), some (.ref 1), some (.ref 76), some (.ref 114), some (.int x4), some (.int q81.1), some (.int q82.1), none], [.ref 76], (iq_sh l, q82.2, q81.2.2.1, q81.2.2.2))) (fun _ => rfl) ?_
  obtain ⟨q83, hq83, h⟩ := iq_bnd h
  refine iq_G_call (σ' := (1897, [some (.ref 0), some (.ref 1), some (.ref 76), some (.ref 114), some (.int x4), some (.int q81.1), some (.int q82.1), none], [.int q83], (iq_sh l, q82.2, q81.2.2.1, q81.2.2.2))) (fun _ => rfl) (zM_thrown_ok l  q82.2 q81.2.2.1 q81.2.2.2 hq83) rfl rfl ?_
  refine iq_G_go (k := 1) (σ' := (1899, [some (.ref 0), some (.ref 1), some (.ref 76), some (.ref 114), some (.int x4), some (.int q81.1), some (.int q82.1), none], [.int q81.1, .int q83], (iq_sh l, q82.2, q81.2.2.1, q81.2.2.2))) (fun _ => rfl) ?_
  rcases iq_ite h with ⟨hc_, h⟩ | ⟨hc_, h⟩
  · refine iq_G_pos (c := q83 = q81.1) (σ1 := (1904, [some (.ref 0), some (.ref 1), some (.ref 76), some (.ref 114), some (.int x4), some (.int q81.1), some (.int q82.1), none], [], (iq_sh l, q82.2, q81.2.2.1, q81.2.2.2))) (fun _ => rfl) hc_ ?_
    refine iq_G_go (k := 1) (σ' := (1906, [some (.ref 0), some (.ref 1), some (.ref 76), some (.ref 114), some (.int x4), some (.int q81.1), some (.int q82.1), none], [.int q81.1], (iq_sh l, q82.2, q81.2.2.1, q81.2.2.2))) (fun _ => rfl) ?_
    rcases iq_ite h with ⟨hc_, h⟩ | ⟨hc_, h⟩
    · refine iq_G_pos (c := ¬ q81.1 = 0) (σ1 := (1921, [some (.ref 0), some (.ref 1), some (.ref 76), some (.ref 114), some (.int x4), some (.int q81.1), some (.int q82.1), none], [], (iq_sh l, q82.2, q81.2.2.1, q81.2.2.2))) (fun _ => rfl) hc_ ?_
      refine iq_G_go (k := 1) (σ' := (2524, [some (.ref 0), some (.ref 1), some (.ref 76), some (.ref 114), some (.int x4), some (.int q81.1), some (.int q82.1), none], [], (iq_sh l, q82.2, q81.2.2.1, q81.2.2.2))) (fun _ => rfl) ?_
      refine iq_G_go (k := 2) (σ' := (23, [some (.ref 0), some (.ref 1), some (.ref 76), some (.ref 114), some (.int (x4 + (6 : Int32))), some (.int q81.1), some (.int q82.1), none], [], (iq_sh l, q82.2, q81.2.2.1, q81.2.2.2))) (fun _ => rfl) ?_
      cases h
      exact iq_G_fg (L := [some (.ref 0), some (.ref 1), some (.ref 76), some (.ref 114), some (.int (x4 + (6 : Int32))), none, none, none]) (And.intro rfl (And.intro rfl (And.intro rfl (And.intro rfl (And.intro rfl trivial))))) (hc ((x4 + (6 : Int32)), q82.2, q81.2.2.1, q81.2.2.2) rfl)
    · refine iq_G_neg (c := ¬ q81.1 = 0) (σ1 := (1909, [some (.ref 0), some (.ref 1), some (.ref 76), some (.ref 114), some (.int x4), some (.int q81.1), some (.int q82.1), none], [], (iq_sh l, q82.2, q81.2.2.1, q81.2.2.2))) (fun _ => rfl) hc_ ?_
      refine iq_G_go (k := 2) (σ' := (1911, [some (.ref 0), some (.ref 1), some (.ref 76), some (.ref 114), some (.int x4), some (.int q81.1), some (.int q82.1), none], [.int (0 : Int32), .ref 114], (iq_sh l, q82.2, q81.2.2.1, q81.2.2.2))) (fun _ => rfl) ?_
      refine iq_G_go (k := 1) (σ' := (1912, [some (.ref 0), some (.ref 1), some (.ref 76), some (.ref 114), some (.int x4), some (.int q81.1), some (.int q82.1), none], [.long (q81.2.2.1 114 0)], (iq_sh l, q82.2, q81.2.2.1, q81.2.2.2))) (fun _ => rfl) ?_
      refine iq_G_go (k := 3) (σ' := (1916, [some (.ref 0), some (.ref 1), some (.ref 76), some (.ref 114), some (.int x4), some (.int q81.1), some (.int q82.1), none], [.int (lg_cmp (q81.2.2.1 114 0) (Int32.toInt64 q82.1))], (iq_sh l, q82.2, q81.2.2.1, q81.2.2.2))) (fun _ => rfl) ?_
      rcases iq_ite h with ⟨hc_, h⟩ | ⟨hc_, h⟩
      · refine iq_G_pos (c := (lg_cmp (q81.2.2.1 114 0) (Int32.toInt64 q82.1)) = 0) (σ1 := (1921, [some (.ref 0), some (.ref 1), some (.ref 76), some (.ref 114), some (.int x4), some (.int q81.1), some (.int q82.1), none], [], (iq_sh l, q82.2, q81.2.2.1, q81.2.2.2))) (fun _ => rfl) hc_ ?_
        refine iq_G_go (k := 1) (σ' := (2524, [some (.ref 0), some (.ref 1), some (.ref 76), some (.ref 114), some (.int x4), some (.int q81.1), some (.int q82.1), none], [], (iq_sh l, q82.2, q81.2.2.1, q81.2.2.2))) (fun _ => rfl) ?_
        refine iq_G_go (k := 2) (σ' := (23, [some (.ref 0), some (.ref 1), some (.ref 76), some (.ref 114), some (.int (x4 + (6 : Int32))), some (.int q81.1), some (.int q82.1), none], [], (iq_sh l, q82.2, q81.2.2.1, q81.2.2.2))) (fun _ => rfl) ?_
        cases h
        exact iq_G_fg (L := [some (.ref 0), some (.ref 1), some (.ref 76), some (.ref 114), some (.int (x4 + (6 : Int32))), none, none, none]) (And.intro rfl (And.intro rfl (And.intro rfl (And.intro rfl (And.intro rfl trivial))))) (hc ((x4 + (6 : Int32)), q82.2, q81.2.2.1, q81.2.2.2) rfl)
      · refine iq_G_neg (c := (lg_cmp (q81.2.2.1 114 0) (Int32.toInt64 q82.1)) = 0) (σ1 := (1919, [some (.ref 0), some (.ref 1), some (.ref 76), some (.ref 114), some (.int x4), some (.int q81.1), some (.int q82.1), none], [], (iq_sh l, q82.2, q81.2.2.1, q81.2.2.2))) (fun _ => rfl) hc_ ?_
        refine iq_G_go (k := 1) (σ' := (1920, [some (.ref 0), some (.ref 1), some (.ref 76), some (.ref 114), some (.int x4), some (.int q81.1), some (.int q82.1), none], [.int (0 : Int32)], (iq_sh l, q82.2, q81.2.2.1, q81.2.2.2))) (fun _ => rfl) ?_
        cases h
        obtain rfl := (hx _ rfl).2 _ rfl
        exact iq_G_ret (fun _ => rfl)
  · refine iq_G_neg (c := q83 = q81.1) (σ1 := (1902, [some (.ref 0), some (.ref 1), some (.ref 76), some (.ref 114), some (.int x4), some (.int q81.1), some (.int q82.1), none], [], (iq_sh l, q82.2, q81.2.2.1, q81.2.2.2))) (fun _ => rfl) hc_ ?_
    refine iq_G_go (k := 1) (σ' := (1903, [some (.ref 0), some (.ref 1), some (.ref 76), some (.ref 114), some (.int x4), some (.int q81.1), some (.int q82.1), none], [.int (0 : Int32)], (iq_sh l, q82.2, q81.2.2.1, q81.2.2.2))) (fun _ => rfl) ?_
    cases h
    obtain rfl := (hx _ rfl).2 _ rfl
    exact iq_G_ret (fun _ => rfl)
set_option maxRecDepth 100000 in
theorem zL_law_1924_ok (l : Nat)  (x4 : Int32) (I : iq_I) (J : iq_J) (X : iq_X)  {q : (Int32 × iq_I × iq_J × iq_X) ⊕ ((iq_I × iq_J × iq_X) ⊕ (Int32 × iq_I × iq_J × iq_X))} (h : zL_law_1924 l x4 I J X = some q) (r : iq_R × iq_M) (hc : ∀ v, q = .inl v → iq_Gg 72 357 (23, [some (.ref 0), some (.ref 1), some (.ref 76), some (.ref 114), some (.int v.1), none, none, none], [], (iq_sh l, v.2.1, v.2.2.1, v.2.2.2)) r) (hx : ∀ w, q = .inr w → (∀ a, w = .inl a → iq_Gg 72 357 (2530, [none, none, none, none, none, none, none, none], [], (iq_sh l, a.1, a.2.1, a.2.2)) r) ∧ (∀ b, w = .inr b → r = (.inl (some (.int b.1)), (iq_sh l, b.2.1, b.2.2.1, b.2.2.2)))) : iq_Gg 72 357 (1924, [some (.ref 0), some (.ref 1), some (.ref 76), some (.ref 114), some (.int x4), none, none, none], [], (iq_sh l, I, J, X)) r := by
  unfold zL_law_1924 at h
  refine iq_G_go (k := 5) (σ' := (1930, [some (.ref 0), some (.ref 1), some (.ref 76), some (.ref 114), some (.int x4), none, none, none], [.int (x4 + (1 : Int32)), .ref 0, .ref 1], (iq_sh l, I, J, X))) (fun _ => rfl) ?_
  obtain ⟨hc_, h⟩ := iq_itn h
  refine iq_G_pos (c := iq_in (x4 + (1 : Int32)) l) (σ1 := (1931, [some (.ref 0), some (.ref 1), some (.ref 76), some (.ref 114), some (.int x4), none, none, none], [.int (I 0 (Int32.toNatClampNeg (x4 + (1 : Int32)))), .ref 1], (iq_sh l, I, J, X))) (fun _ => rfl) hc_ ?_
  refine iq_G_go (k := 1) (σ' := (1932, [some (.ref 0), some (.ref 1), some (.ref 76), some (.ref 114), some (.int x4), none, none, none], [.ref 114, .int (I 0 (Int32.toNatClampNeg (x4 + (1 : Int32)))), .ref 1], (iq_sh l, I, J, X))) (fun _ => rfl) ?_
  obtain ⟨q84, hq84, h⟩ := iq_bnd h
  refine iq_G_call (σ' := (1935, [some (.ref 0), some (.ref 1), some (.ref 76), some (.ref 114), some (.int x4), none, none, none], [.int q84.1], (iq_sh l, I, q84.2.1, q84.2.2))) (fun _ => rfl) (zL_crimes_ok l (I 0 (Int32.toNatClampNeg (x4 + (1 : Int32)))) I J X hq84) rfl rfl ?_
  refine iq_G_go (k := 6) (σ' := (1943, [some (.ref 0), some (.ref 1), some (.ref 76), some (.ref 114), some (.int x4), some (.int q84.1), none, none], [.int (x4 + (1 : Int32)), .ref 0, .ref 76], (iq_sh l, I, q84.2.1, q84.2.2))) (fun _ => rfl) ?_
  obtain ⟨hc_, h⟩ := iq_itn h
  refine iq_G_pos (c := iq_in (x4 + (1 : Int32)) l) (σ1 := (1944, [some (.ref 0), some (.ref 1), some (.ref 76), some (.ref 114), some (.int x4), some (.int q84.1), none, none], [.int (I 0 (Int32.toNatClampNeg (x4 + (1 : Int32)))), .ref 76], (iq_sh l, I, q84.2.1, q84.2.2))) (fun _ => rfl) hc_ ?_
  obtain ⟨q85, hq85, h⟩ := iq_bnd h
  refine iq_G_call (σ' := (1947, [some (.ref 0), some (.ref 1), some (.ref 76), some (.ref 114), some (.int x4), some (.int q84.1), none, none], [.int q85.1], (iq_sh l, q85.2, q84.2.1, q84.2.2))) (fun _ => rfl) (zM_crimes_ok l (I 0 (Int32.toNatClampNeg (x4 + (1 : Int32)))) I q84.2.1 q84.2.2 hq85) rfl rfl ?_
  refine iq_G_go (k := 2) (σ' := (1950, [some (.ref 0), some (.ref 1), some (.ref 76), some (.ref 114), some (.int x4), some (.int q84.1), some (.int q85.1), none], [.ref 76], (iq_sh l, q85.2, q84.2.1, q84.2.2))) (fun _ => rfl) ?_
  obtain ⟨q86, hq86, h⟩ := iq_bnd h
  refine iq_G_call (σ' := (1953, [some (.ref 0), some (.ref 1), some (.ref 76), some (.ref 114), some (.int x4), some (.int q84.1), some (.int q85.1), none], [.int q86], (iq_sh l, q85.2, q84.2.1, q84.2.2))) (fun _ => rfl) (zM_thrown_ok l  q85.2 q84.2.1 q84.2.2 hq86) rfl rfl ?_
  refine iq_G_go (k := 1) (σ' := (1955, [some (.ref 0), some (.ref 1), some (.ref 76), some (.ref 114), some (.int x4), some (.int q84.1), some (.int q85.1), none], [.int q84.1, .int q86], (iq_sh l, q85.2, q84.2.1, q84.2.2))) (fun _ => rfl) ?_
  rcases iq_ite h with ⟨hc_, h⟩ | ⟨hc_, h⟩
  · refine iq_G_pos (c := q86 = q84.1) (σ1 := (1960, [some (.ref 0), some (.ref 1), some (.ref 76), some (.ref 114), some (.int x4), some (.int q84.1), some (.int q85.1), none], [], (iq_sh l, q85.2, q84.2.1, q84.2.2))) (fun _ => rfl) hc_ ?_
    refine iq_G_go (k := 1) (σ' := (1962, [some (.ref 0), some (.ref 1), some (.ref 76), some (.ref 114), some (.int x4), some (.int q84.1), some (.int q85.1), none], [.int q84.1], (iq_sh l, q85.2, q84.2.1, q84.2.2))) (fun _ => rfl) ?_
    rcases iq_ite h with ⟨hc_, h⟩ | ⟨hc_, h⟩
    · refine iq_G_pos (c := ¬ q84.1 = 0) (σ1 := (1977, [some (.ref 0), some (.ref 1), some (.ref 76), some (.ref 114), some (.int x4), some (.int q84.1), some (.int q85.1), none], [], (iq_sh l, q85.2, q84.2.1, q84.2.2))) (fun _ => rfl) hc_ ?_
      refine iq_G_go (k := 1) (σ' := (2524, [some (.ref 0), some (.ref 1), some (.ref 76), some (.ref 114), some (.int x4), some (.int q84.1), some (.int q85.1), none], [], (iq_sh l, q85.2, q84.2.1, q84.2.2))) (fun _ => rfl) ?_
      refine iq_G_go (k := 2) (σ' := (23, [some (.ref 0), some (.ref 1), some (.ref 76), some (.ref 114), some (.int (x4 + (6 : Int32))), some (.int q84.1), some (.int q85.1), none], [], (iq_sh l, q85.2, q84.2.1, q84.2.2))) (fun _ => rfl) ?_
      cases h
      exact iq_G_fg (L := [some (.ref 0), some (.ref 1), some (.ref 76), some (.ref 114), some (.int (x4 + (6 : Int32))), none, none, none]) (And.intro rfl (And.intro rfl (And.intro rfl (And.intro rfl (And.intro rfl trivial))))) (hc ((x4 + (6 : Int32)), q85.2, q84.2.1, q84.2.2) rfl)
    · refine iq_G_neg (c := ¬ q84.1 = 0) (σ1 := (1965, [some (.ref 0), some (.ref 1), some (.ref 76), some (.ref 114), some (.int x4), some (.int q84.1), some (.int q85.1), none], [], (iq_sh l, q85.2, q84.2.1, q84.2.2))) (fun _ => rfl) hc_ ?_
      refine iq_G_go (k := 2) (σ' := (1967, [some (.ref 0), some (.ref 1), some (.ref 76), some (.ref 114), some (.int x4), some (.int q84.1), some (.int q85.1), none], [.int (0 : Int32), .ref 114], (iq_sh l, q85.2, q84.2.1, q84.2.2))) (fun _ => rfl) ?_
      refine iq_G_go (k := 1) (σ' := (1968, [some (.ref 0), some (.ref 1), some (.ref 76), some (.ref 114), some (.int x4), some (.int q84.1), some (.int q85.1), none], [.long (q84.2.1 114 0)], (iq_sh l, q85.2, q84.2.1, q84.2.2))) (fun _ => rfl) ?_
      refine iq_G_go (k := 3) (σ' := (1972, [some (.ref 0), some (.ref 1), some (.ref 76), some (.ref 114), some (.int x4), some (.int q84.1), some (.int q85.1), none], [.int (lg_cmp (q84.2.1 114 0) (Int32.toInt64 q85.1))], (iq_sh l, q85.2, q84.2.1, q84.2.2))) (fun _ => rfl) ?_
      rcases iq_ite h with ⟨hc_, h⟩ | ⟨hc_, h⟩
      · refine iq_G_pos (c := (lg_cmp (q84.2.1 114 0) (Int32.toInt64 q85.1)) = 0) (σ1 := (1977, [some (.ref 0), some (.ref 1), some (.ref 76), some (.ref 114), some (.int x4), some (.int q84.1), some (.int q85.1), none], [], (iq_sh l, q85.2, q84.2.1, q84.2.2))) (fun _ => rfl) hc_ ?_
        refine iq_G_go (k := 1) (σ' := (2524, [some (.ref 0), some (.ref 1), some (.ref 76), some (.ref 114), some (.int x4), some (.int q84.1), some (.int q85.1), none], [], (iq_sh l, q85.2, q84.2.1, q84.2.2))) (fun _ => rfl) ?_
        refine iq_G_go (k := 2) (σ' := (23, [some (.ref 0), some (.ref 1), some (.ref 76), some (.ref 114), some (.int (x4 + (6 : Int32))), some (.int q84.1), some (.int q85.1), none], [], (iq_sh l, q85.2, q84.2.1, q84.2.2))) (fun _ => rfl) ?_
        cases h
        exact iq_G_fg (L := [some (.ref 0), some (.ref 1), some (.ref 76), some (.ref 114), some (.int (x4 + (6 : Int32))), none, none, none]) (And.intro rfl (And.intro rfl (And.intro rfl (And.intro rfl (And.intro rfl trivial))))) (hc ((x4 + (6 : Int32)), q85.2, q84.2.1, q84.2.2) rfl)
      · refine iq_G_neg (c := (lg_cmp (q84.2.1 114 0) (Int32.toInt64 q85.1)) = 0) (σ1 := (1975, [some (.ref 0), some (.ref 1), some (.ref 76), some (.ref 114), some (.int x4), some (.int q84.1), some (.int q85.1), none], [], (iq_sh l, q85.2, q84.2.1, q84.2.2))) (fun _ => rfl) hc_ ?_
        refine iq_G_go (k := 1) (σ' := (1976, [some (.ref 0), some (.ref 1), some (.ref 76), some (.ref 114), some (.int x4), some (.int q84.1), some (.int q85.1), none], [.int (0 : Int32)], (iq_sh l, q85.2, q84.2.1, q84.2.2))) (fun _ => rfl) ?_
        cases h
        obtain rfl := (hx _ rfl).2 _ rfl
        exact iq_G_ret (fun _ => rfl)
  · refine iq_G_neg (c := q86 = q84.1) (σ1 := (1958, [some (.ref 0), some (.ref 1), some (.ref 76), some (.ref 114), some (.int x4), some (.int q84.1), some (.int q85.1), none], [], (iq_sh l, q85.2, q84.2.1, q84.2.2))) (fun _ => rfl) hc_ ?_
    refine iq_G_go (k := 1) (σ' := (1959, [some (.ref 0), some (.ref 1), some (.ref 76), some (.ref 114), some (.int x4), some (.int q84.1), some (.int q85.1), none], [.int (0 : Int32)], (iq_sh l, q85.2, q84.2.1, q84.2.2))) (fun _ => rfl) ?_
    cases h
    obtain rfl := (hx _ rfl).2 _ rfl
    exact iq_G_ret (fun _ => rfl)
set_option maxRecDepth 100000 in
theorem zL_law_1980_ok (l : Nat)  (x4 : Int32) (I : iq_I) (J : iq_J) (X : iq_X)  {q : (Int32 × iq_I × iq_J × iq_X) ⊕ ((iq_I × iq_J × iq_X) ⊕ (Int32 × iq_I × iq_J × iq_X))} (h : zL_law_1980 l x4 I J X = some q) (r : iq_R × iq_M) (hc : ∀ v, q = .inl v → iq_Gg 72 357 (23, [some (.ref 0), some (.ref 1), some (.ref 76), some (.ref 114), some (.int v.1), none, none, none], [], (iq_sh l, v.2.1, v.2.2.1, v.2.2.2)) r) (hx : ∀ w, q = .inr w → (∀ a, w = .inl a → iq_Gg 72 357 (2530, [none, none, none, none, none, none, none, none], [], (iq_sh l, a.1, a.2.1, a.2.2)) r) ∧ (∀ b, w = .inr b → r = (.inl (some (.int b.1)), (iq_sh l, b.2.1, b.2.2.1, b.2.2.2)))) : iq_Gg 72 357 (1980, [some (.ref 0), some (.ref 1), some (.ref 76), some (.ref 114), some (.int x4), none, none, none], [], (iq_sh l, I, J, X)) r := by
  unfold zL_law_1980 at h
  refine iq_G_go (k := 5) (σ' := (1986, [some (.ref 0), some (.ref 1), some (.ref 76), some (.ref 114), some (.int x4), none, none, none], [.int (x4 + (1 : Int32)), .ref 0, .ref 1], (iq_sh l, I, J, X))) (fun _ => rfl) ?_
  obtain ⟨hc_, h⟩ := iq_itn h
  refine iq_G_pos (c := iq_in (x4 + (1 : Int32)) l) (σ1 := (1987, [some (.ref 0), some (.ref 1), some (.ref 76), some (.ref 114), some (.int x4), none, none, none], [.int (I 0 (Int32.toNatClampNeg (x4 + (1 : Int32)))), .ref 1], (iq_sh l, I, J, X))) (fun _ => rfl) hc_ ?_
  refine iq_G_go (k := 1) (σ' := (1988, [some (.ref 0), some (.ref 1), some (.ref 76), some (.ref 114), some (.int x4), none, none, none], [.ref 114, .int (I 0 (Int32.toNatClampNeg (x4 + (1 : Int32)))), .ref 1], (iq_sh l, I, J, X))) (fun _ => rfl) ?_
  obtain ⟨q87, hq87, h⟩ := iq_bnd h
  refine iq_G_call (σ' := (1991, [some (.ref 0), some (.ref 1), some (.ref 76), some (.ref 114), some (.int x4), none, none, none], [.int q87.1], (iq_sh l, q87.2.1, q87.2.2.1, q87.2.2.2))) (fun _ => rfl) (zL_doors_ok l (I 0 (Int32.toNatClampNeg (x4 + (1 : Int32)))) I J X hq87) rfl rfl ?_
  refine iq_G_go (k := 6) (σ' := (1999, [some (.ref 0), some (.ref 1), some (.ref 76), some (.ref 114), some (.int x4), some (.int q87.1), none, none], [.int (x4 + (1 : Int32)), .ref 0, .ref 76], (iq_sh l, q87.2.1, q87.2.2.1, q87.2.2.2))) (fun _ => rfl) ?_
  obtain ⟨hc_, h⟩ := iq_itn h
  refine iq_G_pos (c := iq_in (x4 + (1 : Int32)) l) (σ1 := (2000, [some (.ref 0), some (.ref 1), some (.ref 76), some (.ref 114), some (.int x4), some (.int q87.1), none, none], [.int (q87.2.1 0 (Int32.toNatClampNeg (x4 + (1 : Int32)))), .ref 76], (iq_sh l, q87.2.1, q87.2.2.1, q87.2.2.2))) (fun _ => rfl) hc_ ?_
  obtain ⟨q88, hq88, h⟩ := iq_bnd h
  refine iq_G_call (σ' := (2003, [some (.ref 0), some (.ref 1), some (.ref 76), some (.ref 114), some (.int x4), some (.int q87.1), none, none], [.int q88.1], (iq_sh l, q88.2, q87.2.2.1, q87.2.2.2))) (fun _ => rfl) (zM_doors_ok l (q87.2.1 0 (Int32.toNatClampNeg (x4 + (1 : Int32)))) q87.2.1 q87.2.2.1 q87.2.2.2 hq88) rfl rfl ?_
  refine iq_G_go (k := 2) (σ' := (2006, [some (.ref 0), some (.ref 1), some (.ref 76), some (.ref 114), some (.int x4), some (.int q87.1), some (.int q88.1), none], [.ref 76], (iq_sh l, q88.2, q87.2.2.1, q87.2.2.2))) (fun _ => rfl) ?_
  obtain ⟨q89, hq89, h⟩ := iq_bnd h
  refine iq_G_call (σ' := (2009, [some (.ref 0), some (.ref 1), some (.ref 76), some (.ref 114), some (.int x4), some (.int q87.1), some (.int q88.1), none], [.int q89], (iq_sh l, q88.2, q87.2.2.1, q87.2.2.2))) (fun _ => rfl) (zM_thrown_ok l  q88.2 q87.2.2.1 q87.2.2.2 hq89) rfl rfl ?_
  refine iq_G_go (k := 1) (σ' := (2011, [some (.ref 0), some (.ref 1), some (.ref 76), some (.ref 114), some (.int x4), some (.int q87.1), some (.int q88.1), none], [.int q87.1, .int q89], (iq_sh l, q88.2, q87.2.2.1, q87.2.2.2))) (fun _ => rfl) ?_
  rcases iq_ite h with ⟨hc_, h⟩ | ⟨hc_, h⟩
  · refine iq_G_pos (c := q89 = q87.1) (σ1 := (2016, [some (.ref 0), some (.ref 1), some (.ref 76), some (.ref 114), some (.int x4), some (.int q87.1), some (.int q88.1), none], [], (iq_sh l, q88.2, q87.2.2.1, q87.2.2.2))) (fun _ => rfl) hc_ ?_
    refine iq_G_go (k := 1) (σ' := (2018, [some (.ref 0), some (.ref 1), some (.ref 76), some (.ref 114), some (.int x4), some (.int q87.1), some (.int q88.1), none], [.int q87.1], (iq_sh l, q88.2, q87.2.2.1, q87.2.2.2))) (fun _ => rfl) ?_
    rcases iq_ite h with ⟨hc_, h⟩ | ⟨hc_, h⟩
    · refine iq_G_pos (c := ¬ q87.1 = 0) (σ1 := (2033, [some (.ref 0), some (.ref 1), some (.ref 76), some (.ref 114), some (.int x4), some (.int q87.1), some (.int q88.1), none], [], (iq_sh l, q88.2, q87.2.2.1, q87.2.2.2))) (fun _ => rfl) hc_ ?_
      refine iq_G_go (k := 1) (σ' := (2524, [some (.ref 0), some (.ref 1), some (.ref 76), some (.ref 114), some (.int x4), some (.int q87.1), some (.int q88.1), none], [], (iq_sh l, q88.2, q87.2.2.1, q87.2.2.2))) (fun _ => rfl) ?_
      refine iq_G_go (k := 2) (σ' := (23, [some (.ref 0), some (.ref 1), some (.ref 76), some (.ref 114), some (.int (x4 + (6 : Int32))), some (.int q87.1), some (.int q88.1), none], [], (iq_sh l, q88.2, q87.2.2.1, q87.2.2.2))) (fun _ => rfl) ?_
      cases h
      exact iq_G_fg (L := [some (.ref 0), some (.ref 1), some (.ref 76), some (.ref 114), some (.int (x4 + (6 : Int32))), none, none, none]) (And.intro rfl (And.intro rfl (And.intro rfl (And.intro rfl (And.intro rfl trivial))))) (hc ((x4 + (6 : Int32)), q88.2, q87.2.2.1, q87.2.2.2) rfl)
    · refine iq_G_neg (c := ¬ q87.1 = 0) (σ1 := (2021, [some (.ref 0), some (.ref 1), some (.ref 76), some (.ref 114), some (.int x4), some (.int q87.1), some (.int q88.1), none], [], (iq_sh l, q88.2, q87.2.2.1, q87.2.2.2))) (fun _ => rfl) hc_ ?_
      refine iq_G_go (k := 2) (σ' := (2023, [some (.ref 0), some (.ref 1), some (.ref 76), some (.ref 114), some (.int x4), some (.int q87.1), some (.int q88.1), none], [.int (0 : Int32), .ref 114], (iq_sh l, q88.2, q87.2.2.1, q87.2.2.2))) (fun _ => rfl) ?_
      refine iq_G_go (k := 1) (σ' := (2024, [some (.ref 0), some (.ref 1), some (.ref 76), some (.ref 114), some (.int x4), some (.int q87.1), some (.int q88.1), none], [.long (q87.2.2.1 114 0)], (iq_sh l, q88.2, q87.2.2.1, q87.2.2.2))) (fun _ => rfl) ?_
      refine iq_G_go (k := 3) (σ' := (2028, [some (.ref 0), some (.ref 1), some (.ref 76), some (.ref 114), some (.int x4), some (.int q87.1), some (.int q88.1), none], [.int (lg_cmp (q87.2.2.1 114 0) (Int32.toInt64 q88.1))], (iq_sh l, q88.2, q87.2.2.1, q87.2.2.2))) (fun _ => rfl) ?_
      rcases iq_ite h with ⟨hc_, h⟩ | ⟨hc_, h⟩
      · refine iq_G_pos (c := (lg_cmp (q87.2.2.1 114 0) (Int32.toInt64 q88.1)) = 0) (σ1 := (2033, [some (.ref 0), some (.ref 1), some (.ref 76), some (.ref 114), some (.int x4), some (.int q87.1), some (.int q88.1), none], [], (iq_sh l, q88.2, q87.2.2.1, q87.2.2.2))) (fun _ => rfl) hc_ ?_
        refine iq_G_go (k := 1) (σ' := (2524, [some (.ref 0), some (.ref 1), some (.ref 76), some (.ref 114), some (.int x4), some (.int q87.1), some (.int q88.1), none], [], (iq_sh l, q88.2, q87.2.2.1, q87.2.2.2))) (fun _ => rfl) ?_
        refine iq_G_go (k := 2) (σ' := (23, [some (.ref 0), some (.ref 1), some (.ref 76), some (.ref 114), some (.int (x4 + (6 : Int32))), some (.int q87.1), some (.int q88.1), none], [], (iq_sh l, q88.2, q87.2.2.1, q87.2.2.2))) (fun _ => rfl) ?_
        cases h
        exact iq_G_fg (L := [some (.ref 0), some (.ref 1), some (.ref 76), some (.ref 114), some (.int (x4 + (6 : Int32))), none, none, none]) (And.intro rfl (And.intro rfl (And.intro rfl (And.intro rfl (And.intro rfl trivial))))) (hc ((x4 + (6 : Int32)), q88.2, q87.2.2.1, q87.2.2.2) rfl)
      · refine iq_G_neg (c := (lg_cmp (q87.2.2.1 114 0) (Int32.toInt64 q88.1)) = 0) (σ1 := (2031, [some (.ref 0), some (.ref 1), some (.ref 76), some (.ref 114), some (.int x4), some (.int q87.1), some (.int q88.1), none], [], (iq_sh l, q88.2, q87.2.2.1, q87.2.2.2))) (fun _ => rfl) hc_ ?_
        refine iq_G_go (k := 1) (σ' := (2032, [some (.ref 0), some (.ref 1), some (.ref 76), some (.ref 114), some (.int x4), some (.int q87.1), some (.int q88.1), none], [.int (0 : Int32)], (iq_sh l, q88.2, q87.2.2.1, q87.2.2.2))) (fun _ => rfl) ?_
        cases h
        obtain rfl := (hx _ rfl).2 _ rfl
        exact iq_G_ret (fun _ => rfl)
  · refine iq_G_neg (c := q89 = q87.1) (σ1 := (2014, [some (.ref 0), some (.ref 1), some (.ref 76), some (.ref 114), some (.int x4), some (.int q87.1), some (.int q88.1), none], [], (iq_sh l, q88.2, q87.2.2.1, q87.2.2.2))) (fun _ => rfl) hc_ ?_
    refine iq_G_go (k := 1) (σ' := (2015, [some (.ref 0), some (.ref 1), some (.ref 76), some (.ref 114), some (.int x4), some (.int q87.1), some (.int q88.1), none], [.int (0 : Int32)], (iq_sh l, q88.2, q87.2.2.1, q87.2.2.2))) (fun _ => rfl) ?_
    cases h
    obtain rfl := (hx _ rfl).2 _ rfl
    exact iq_G_ret (fun _ => rfl)
set_option maxRecDepth 100000 in
theorem zL_law_2036_ok (l : Nat)  (x4 : Int32) (I : iq_I) (J : iq_J) (X : iq_X)  {q : (Int32 × iq_I × iq_J × iq_X) ⊕ ((iq_I × iq_J × iq_X) ⊕ (Int32 × iq_I × iq_J × iq_X))} (h : zL_law_2036 l x4 I J X = some q) (r : iq_R × iq_M) (hc : ∀ v, q = .inl v → iq_Gg 72 357 (23, [some (.ref 0), some (.ref 1), some (.ref 76), some (.ref 114), some (.int v.1), none, none, none], [], (iq_sh l, v.2.1, v.2.2.1, v.2.2.2)) r) (hx : ∀ w, q = .inr w → (∀ a, w = .inl a → iq_Gg 72 357 (2530, [none, none, none, none, none, none, none, none], [], (iq_sh l, a.1, a.2.1, a.2.2)) r) ∧ (∀ b, w = .inr b → r = (.inl (some (.int b.1)), (iq_sh l, b.2.1, b.2.2.1, b.2.2.2)))) : iq_Gg 72 357 (2036, [some (.ref 0), some (.ref 1), some (.ref 76), some (.ref 114), some (.int x4), none, none, none], [], (iq_sh l, I, J, X)) r := by
  unfold zL_law_2036 at h
  refine iq_G_go (k := 5) (σ' := (2042, [some (.ref 0), some (.ref 1), some (.ref 76), some (.ref 114), some (.int x4), none, none, none], [.int (x4 + (1 : Int32)), .ref 0, .ref 1], (iq_sh l, I, J, X))) (fun _ => rfl) ?_
  obtain ⟨hc_, h⟩ := iq_itn h
  refine iq_G_pos (c := iq_in (x4 + (1 : Int32)) l) (σ1 := (2043, [some (.ref 0), some (.ref 1), some (.ref 76), some (.ref 114), some (.int x4), none, none, none], [.int (I 0 (Int32.toNatClampNeg (x4 + (1 : Int32)))), .ref 1], (iq_sh l, I, J, X))) (fun _ => rfl) hc_ ?_
  refine iq_G_go (k := 4) (σ' := (2048, [some (.ref 0), some (.ref 1), some (.ref 76), some (.ref 114), some (.int x4), none, none, none], [.int (x4 + (2 : Int32)), .ref 0, .int (I 0 (Int32.toNatClampNeg (x4 + (1 : Int32)))), .ref 1], (iq_sh l, I, J, X))) (fun _ => rfl) ?_
  obtain ⟨hc_, h⟩ := iq_itn h
  refine iq_G_pos (c := iq_in (x4 + (2 : Int32)) l) (σ1 := (2049, [some (.ref 0), some (.ref 1), some (.ref 76), some (.ref 114), some (.int x4), none, none, none], [.int (I 0 (Int32.toNatClampNeg (x4 + (2 : Int32)))), .int (I 0 (Int32.toNatClampNeg (x4 + (1 : Int32)))), .ref 1], (iq_sh l, I, J, X))) (fun _ => rfl) hc_ ?_
  refine iq_G_go (k := 1) (σ' := (2050, [some (.ref 0), some (.ref 1), some (.ref 76), some (.ref 114), some (.int x4), none, none, none], [.ref 114, .int (I 0 (Int32.toNatClampNeg (x4 + (2 : Int32)))), .int (I 0 (Int32.toNatClampNeg (x4 + (1 : Int32)))), .ref 1], (iq_sh l, I, J, X))) (fun _ => rfl) ?_
  obtain ⟨q90, hq90, h⟩ := iq_bnd h
  refine iq_G_call (σ' := (2053, [some (.ref 0), some (.ref 1), some (.ref 76), some (.ref 114), some (.int x4), none, none, none], [.int q90.1], (iq_sh l, q90.2.1, q90.2.2.1, q90.2.2.2))) (fun _ => rfl) (zL_far_ok l (I 0 (Int32.toNatClampNeg (x4 + (1 : Int32)))) (I 0 (Int32.toNatClampNeg (x4 + (2 : Int32)))) I J X hq90) rfl rfl ?_
  refine iq_G_go (k := 6) (σ' := (2061, [some (.ref 0), some (.ref 1), some (.ref 76), some (.ref 114), some (.int x4), some (.int q90.1), none, none], [.int (x4 + (1 : Int32)), .ref 0, .ref 76], (iq_sh l, q90.2.1, q90.2.2.1, q90.2.2.2))) (fun _ => rfl) ?_
  obtain ⟨hc_, h⟩ := iq_itn h
  refine iq_G_pos (c := iq_in (x4 + (1 : Int32)) l) (σ1 := (2062, [some (.ref 0), some (.ref 1), some (.ref 76), some (.ref 114), some (.int x4), some (.int q90.1), none, none], [.int (q90.2.1 0 (Int32.toNatClampNeg (x4 + (1 : Int32)))), .ref 76], (iq_sh l, q90.2.1, q90.2.2.1, q90.2.2.2))) (fun _ => rfl) hc_ ?_
  refine iq_G_go (k := 4) (σ' := (2067, [some (.ref 0), some (.ref 1), some (.ref 76), some (.ref 114), some (.int x4), some (.int q90.1), none, none], [.int (x4 + (2 : Int32)), .ref 0, .int (q90.2.1 0 (Int32.toNatClampNeg (x4 + (1 : Int32)))), .ref 76], (iq_sh l, q90.2.1, q90.2.2.1, q90.2.2.2))) (fun _ => rfl) ?_
  obtain ⟨hc_, h⟩ := iq_itn h
  refine iq_G_pos (c := iq_in (x4 + (2 : Int32)) l) (σ1 := (2068, [some (.ref 0), some (.ref 1), some (.ref 76), some (.ref 114), some (.int x4), some (.int q90.1), none, none], [.int (q90.2.1 0 (Int32.toNatClampNeg (x4 + (2 : Int32)))), .int (q90.2.1 0 (Int32.toNatClampNeg (x4 + (1 : Int32)))), .ref 76], (iq_sh l, q90.2.1, q90.2.2.1, q90.2.2.2))) (fun _ => rfl) hc_ ?_
  obtain ⟨q91, hq91, h⟩ := iq_bnd h
  refine iq_G_call (σ' := (2071, [some (.ref 0), some (.ref 1), some (.ref 76), some (.ref 114), some (.int x4), some (.int q90.1), none, none], [.int q91.1], (iq_sh l, q91.2, q90.2.2.1, q90.2.2.2))) (fun _ => rfl) (zM_far_ok l (q90.2.1 0 (Int32.toNatClampNeg (x4 + (1 : Int32)))) (q90.2.1 0 (Int32.toNatClampNeg (x4 + (2 : Int32)))) q90.2.1 q90.2.2.1 q90.2.2.2 hq91) rfl rfl ?_
  refine iq_G_go (k := 2) (σ' := (2074, [some (.ref 0), some (.ref 1), some (.ref 76), some (.ref 114), some (.int x4), some (.int q90.1), some (.int q91.1), none], [.ref 76], (iq_sh l, q91.2, q90.2.2.1, q90.2.2.2))) (fun _ => rfl) ?_
  obtain ⟨q92, hq92, h⟩ := iq_bnd h
  refine iq_G_call (σ' := (2077, [some (.ref 0), some (.ref 1), some (.ref 76), some (.ref 114), some (.int x4), some (.int q90.1), some (.int q91.1), none], [.int q92], (iq_sh l, q91.2, q90.2.2.1, q90.2.2.2))) (fun _ => rfl) (zM_thrown_ok l  q91.2 q90.2.2.1 q90.2.2.2 hq92) rfl rfl ?_
  refine iq_G_go (k := 1) (σ' := (2079, [some (.ref 0), some (.ref 1), some (.ref 76), some (.ref 114), some (.int x4), some (.int q90.1), some (.int q91.1), none], [.int q90.1, .int q92], (iq_sh l, q91.2, q90.2.2.1, q90.2.2.2))) (fun _ => rfl) ?_
  rcases iq_ite h with ⟨hc_, h⟩ | ⟨hc_, h⟩
  · refine iq_G_pos (c := q92 = q90.1) (σ1 := (2084, [some (.ref 0), some (.ref 1), some (.ref 76), some (.ref 114), some (.int x4), some (.int q90.1), some (.int q91.1), none], [], (iq_sh l, q91.2, q90.2.2.1, q90.2.2.2))) (fun _ => rfl) hc_ ?_
    refine iq_G_go (k := 1) (σ' := (2086, [some (.ref 0), some (.ref 1), some (.ref 76), some (.ref 114), some (.int x4), some (.int q90.1), some (.int q91.1), none], [.int q90.1], (iq_sh l, q91.2, q90.2.2.1, q90.2.2.2))) (fun _ => rfl) ?_
    rcases iq_ite h with ⟨hc_, h⟩ | ⟨hc_, h⟩
    · refine iq_G_pos (c := ¬ q90.1 = 0) (σ1 := (2101, [some (.ref 0), some (.ref 1), some (.ref 76), some (.ref 114), some (.int x4), some (.int q90.1), some (.int q91.1), none], [], (iq_sh l, q91.2, q90.2.2.1, q90.2.2.2))) (fun _ => rfl) hc_ ?_
      refine iq_G_go (k := 1) (σ' := (2524, [some (.ref 0), some (.ref 1), some (.ref 76), some (.ref 114), some (.int x4), some (.int q90.1), some (.int q91.1), none], [], (iq_sh l, q91.2, q90.2.2.1, q90.2.2.2))) (fun _ => rfl) ?_
      refine iq_G_go (k := 2) (σ' := (23, [some (.ref 0), some (.ref 1), some (.ref 76), some (.ref 114), some (.int (x4 + (6 : Int32))), some (.int q90.1), some (.int q91.1), none], [], (iq_sh l, q91.2, q90.2.2.1, q90.2.2.2))) (fun _ => rfl) ?_
      cases h
      exact iq_G_fg (L := [some (.ref 0), some (.ref 1), some (.ref 76), some (.ref 114), some (.int (x4 + (6 : Int32))), none, none, none]) (And.intro rfl (And.intro rfl (And.intro rfl (And.intro rfl (And.intro rfl trivial))))) (hc ((x4 + (6 : Int32)), q91.2, q90.2.2.1, q90.2.2.2) rfl)
    · refine iq_G_neg (c := ¬ q90.1 = 0) (σ1 := (2089, [some (.ref 0), some (.ref 1), some (.ref 76), some (.ref 114), some (.int x4), some (.int q90.1), some (.int q91.1), none], [], (iq_sh l, q91.2, q90.2.2.1, q90.2.2.2))) (fun _ => rfl) hc_ ?_
      refine iq_G_go (k := 2) (σ' := (2091, [some (.ref 0), some (.ref 1), some (.ref 76), some (.ref 114), some (.int x4), some (.int q90.1), some (.int q91.1), none], [.int (0 : Int32), .ref 114], (iq_sh l, q91.2, q90.2.2.1, q90.2.2.2))) (fun _ => rfl) ?_
      refine iq_G_go (k := 1) (σ' := (2092, [some (.ref 0), some (.ref 1), some (.ref 76), some (.ref 114), some (.int x4), some (.int q90.1), some (.int q91.1), none], [.long (q90.2.2.1 114 0)], (iq_sh l, q91.2, q90.2.2.1, q90.2.2.2))) (fun _ => rfl) ?_
      refine iq_G_go (k := 3) (σ' := (2096, [some (.ref 0), some (.ref 1), some (.ref 76), some (.ref 114), some (.int x4), some (.int q90.1), some (.int q91.1), none], [.int (lg_cmp (q90.2.2.1 114 0) (Int32.toInt64 q91.1))], (iq_sh l, q91.2, q90.2.2.1, q90.2.2.2))) (fun _ => rfl) ?_
      rcases iq_ite h with ⟨hc_, h⟩ | ⟨hc_, h⟩
      · refine iq_G_pos (c := (lg_cmp (q90.2.2.1 114 0) (Int32.toInt64 q91.1)) = 0) (σ1 := (2101, [some (.ref 0), some (.ref 1), some (.ref 76), some (.ref 114), some (.int x4), some (.int q90.1), some (.int q91.1), none], [], (iq_sh l, q91.2, q90.2.2.1, q90.2.2.2))) (fun _ => rfl) hc_ ?_
        refine iq_G_go (k := 1) (σ' := (2524, [some (.ref 0), some (.ref 1), some (.ref 76), some (.ref 114), some (.int x4), some (.int q90.1), some (.int q91.1), none], [], (iq_sh l, q91.2, q90.2.2.1, q90.2.2.2))) (fun _ => rfl) ?_
        refine iq_G_go (k := 2) (σ' := (23, [some (.ref 0), some (.ref 1), some (.ref 76), some (.ref 114), some (.int (x4 + (6 : Int32))), some (.int q90.1), some (.int q91.1), none], [], (iq_sh l, q91.2, q90.2.2.1, q90.2.2.2))) (fun _ => rfl) ?_
        cases h
        exact iq_G_fg (L := [some (.ref 0), some (.ref 1), some (.ref 76), some (.ref 114), some (.int (x4 + (6 : Int32))), none, none, none]) (And.intro rfl (And.intro rfl (And.intro rfl (And.intro rfl (And.intro rfl trivial))))) (hc ((x4 + (6 : Int32)), q91.2, q90.2.2.1, q90.2.2.2) rfl)
      · refine iq_G_neg (c := (lg_cmp (q90.2.2.1 114 0) (Int32.toInt64 q91.1)) = 0) (σ1 := (2099, [some (.ref 0), some (.ref 1), some (.ref 76), some (.ref 114), some (.int x4), some (.int q90.1), some (.int q91.1), none], [], (iq_sh l, q91.2, q90.2.2.1, q90.2.2.2))) (fun _ => rfl) hc_ ?_
        refine iq_G_go (k := 1) (σ' := (2100, [some (.ref 0), some (.ref 1), some (.ref 76), some (.ref 114), some (.int x4), some (.int q90.1), some (.int q91.1), none], [.int (0 : Int32)], (iq_sh l, q91.2, q90.2.2.1, q90.2.2.2))) (fun _ => rfl) ?_
        cases h
        obtain rfl := (hx _ rfl).2 _ rfl
        exact iq_G_ret (fun _ => rfl)
  · refine iq_G_neg (c := q92 = q90.1) (σ1 := (2082, [some (.ref 0), some (.ref 1), some (.ref 76), some (.ref 114), some (.int x4), some (.int q90.1), some (.int q91.1), none], [], (iq_sh l, q91.2, q90.2.2.1, q90.2.2.2))) (fun _ => rfl) hc_ ?_
    refine iq_G_go (k := 1) (σ' := (2083, [some (.ref 0), some (.ref 1), some (.ref 76), some (.ref 114), some (.int x4), some (.int q90.1), some (.int q91.1), none], [.int (0 : Int32)], (iq_sh l, q91.2, q90.2.2.1, q90.2.2.2))) (fun _ => rfl) ?_
    cases h
    obtain rfl := (hx _ rfl).2 _ rfl
    exact iq_G_ret (fun _ => rfl)
set_option maxRecDepth 100000 in
theorem zL_law_2104_ok (l : Nat)  (x4 : Int32) (I : iq_I) (J : iq_J) (X : iq_X)  {q : (Int32 × iq_I × iq_J × iq_X) ⊕ ((iq_I × iq_J × iq_X) ⊕ (Int32 × iq_I × iq_J × iq_X))} (h : zL_law_2104 l x4 I J X = some q) (r : iq_R × iq_M) (hc : ∀ v, q = .inl v → iq_Gg 72 357 (23, [some (.ref 0), some (.ref 1), some (.ref 76), some (.ref 114), some (.int v.1), none, none, none], [], (iq_sh l, v.2.1, v.2.2.1, v.2.2.2)) r) (hx : ∀ w, q = .inr w → (∀ a, w = .inl a → iq_Gg 72 357 (2530, [none, none, none, none, none, none, none, none], [], (iq_sh l, a.1, a.2.1, a.2.2)) r) ∧ (∀ b, w = .inr b → r = (.inl (some (.int b.1)), (iq_sh l, b.2.1, b.2.2.1, b.2.2.2)))) : iq_Gg 72 357 (2104, [some (.ref 0), some (.ref 1), some (.ref 76), some (.ref 114), some (.int x4), none, none, none], [], (iq_sh l, I, J, X)) r := by
  unfold zL_law_2104 at h
  refine iq_G_go (k := 5) (σ' := (2110, [some (.ref 0), some (.ref 1), some (.ref 76), some (.ref 114), some (.int x4), none, none, none], [.int (x4 + (1 : Int32)), .ref 0, .ref 1], (iq_sh l, I, J, X))) (fun _ => rfl) ?_
  obtain ⟨hc_, h⟩ := iq_itn h
  refine iq_G_pos (c := iq_in (x4 + (1 : Int32)) l) (σ1 := (2111, [some (.ref 0), some (.ref 1), some (.ref 76), some (.ref 114), some (.int x4), none, none, none], [.int (I 0 (Int32.toNatClampNeg (x4 + (1 : Int32)))), .ref 1], (iq_sh l, I, J, X))) (fun _ => rfl) hc_ ?_
  refine iq_G_go (k := 4) (σ' := (2116, [some (.ref 0), some (.ref 1), some (.ref 76), some (.ref 114), some (.int x4), none, none, none], [.int (x4 + (2 : Int32)), .ref 0, .int (I 0 (Int32.toNatClampNeg (x4 + (1 : Int32)))), .ref 1], (iq_sh l, I, J, X))) (fun _ => rfl) ?_
  obtain ⟨hc_, h⟩ := iq_itn h
  refine iq_G_pos (c := iq_in (x4 + (2 : Int32)) l) (σ1 := (2117, [some (.ref 0), some (.ref 1), some (.ref 76), some (.ref 114), some (.int x4), none, none, none], [.int (I 0 (Int32.toNatClampNeg (x4 + (2 : Int32)))), .int (I 0 (Int32.toNatClampNeg (x4 + (1 : Int32)))), .ref 1], (iq_sh l, I, J, X))) (fun _ => rfl) hc_ ?_
  refine iq_G_go (k := 1) (σ' := (2118, [some (.ref 0), some (.ref 1), some (.ref 76), some (.ref 114), some (.int x4), none, none, none], [.ref 114, .int (I 0 (Int32.toNatClampNeg (x4 + (2 : Int32)))), .int (I 0 (Int32.toNatClampNeg (x4 + (1 : Int32)))), .ref 1], (iq_sh l, I, J, X))) (fun _ => rfl) ?_
  obtain ⟨q93, hq93, h⟩ := iq_bnd h
  refine iq_G_call (σ' := (2121, [some (.ref 0), some (.ref 1), some (.ref 76), some (.ref 114), some (.int x4), none, none, none], [.int q93.1], (iq_sh l, q93.2.1, q93.2.2.1, q93.2.2.2))) (fun _ => rfl) (zL_days_ok l (I 0 (Int32.toNatClampNeg (x4 + (1 : Int32)))) (I 0 (Int32.toNatClampNeg (x4 + (2 : Int32)))) I J X hq93) rfl rfl ?_
  refine iq_G_go (k := 6) (σ' := (2129, [some (.ref 0), some (.ref 1), some (.ref 76), some (.ref 114), some (.int x4), some (.int q93.1), none, none], [.int (x4 + (1 : Int32)), .ref 0, .ref 76], (iq_sh l, q93.2.1, q93.2.2.1, q93.2.2.2))) (fun _ => rfl) ?_
  obtain ⟨hc_, h⟩ := iq_itn h
  refine iq_G_pos (c := iq_in (x4 + (1 : Int32)) l) (σ1 := (2130, [some (.ref 0), some (.ref 1), some (.ref 76), some (.ref 114), some (.int x4), some (.int q93.1), none, none], [.int (q93.2.1 0 (Int32.toNatClampNeg (x4 + (1 : Int32)))), .ref 76], (iq_sh l, q93.2.1, q93.2.2.1, q93.2.2.2))) (fun _ => rfl) hc_ ?_
  refine iq_G_go (k := 4) (σ' := (2135, [some (.ref 0), some (.ref 1), some (.ref 76), some (.ref 114), some (.int x4), some (.int q93.1), none, none], [.int (x4 + (2 : Int32)), .ref 0, .int (q93.2.1 0 (Int32.toNatClampNeg (x4 + (1 : Int32)))), .ref 76], (iq_sh l, q93.2.1, q93.2.2.1, q93.2.2.2))) (fun _ => rfl) ?_
  obtain ⟨hc_, h⟩ := iq_itn h
  refine iq_G_pos (c := iq_in (x4 + (2 : Int32)) l) (σ1 := (2136, [some (.ref 0), some (.ref 1), some (.ref 76), some (.ref 114), some (.int x4), some (.int q93.1), none, none], [.int (q93.2.1 0 (Int32.toNatClampNeg (x4 + (2 : Int32)))), .int (q93.2.1 0 (Int32.toNatClampNeg (x4 + (1 : Int32)))), .ref 76], (iq_sh l, q93.2.1, q93.2.2.1, q93.2.2.2))) (fun _ => rfl) hc_ ?_
  obtain ⟨q94, hq94, h⟩ := iq_bnd h
  refine iq_G_call (σ' := (2139, [some (.ref 0), some (.ref 1), some (.ref 76), some (.ref 114), some (.int x4), some (.int q93.1), none, none], [.int q94.1], (iq_sh l, q94.2, q93.2.2.1, q93.2.2.2))) (fun _ => rfl) (zM_days_ok l (q93.2.1 0 (Int32.toNatClampNeg (x4 + (1 : Int32)))) (q93.2.1 0 (Int32.toNatClampNeg (x4 + (2 : Int32)))) q93.2.1 q93.2.2.1 q93.2.2.2 hq94) rfl rfl ?_
  refine iq_G_go (k := 2) (σ' := (2142, [some (.ref 0), some (.ref 1), some (.ref 76), some (.ref 114), some (.int x4), some (.int q93.1), some (.int q94.1), none], [.ref 76], (iq_sh l, q94.2, q93.2.2.1, q93.2.2.2))) (fun _ => rfl) ?_
  obtain ⟨q95, hq95, h⟩ := iq_bnd h
  refine iq_G_call (σ' := (2145, [some (.ref 0), some (.ref 1), some (.ref 76), some (.ref 114), some (.int x4), some (.int q93.1), some (.int q94.1), none], [.int q95], (iq_sh l, q94.2, q93.2.2.1, q93.2.2.2))) (fun _ => rfl) (zM_thrown_ok l  q94.2 q93.2.2.1 q93.2.2.2 hq95) rfl rfl ?_
  refine iq_G_go (k := 1) (σ' := (2147, [some (.ref 0), some (.ref 1), some (.ref 76), some (.ref 114), some (.int x4), some (.int q93.1), some (.int q94.1), none], [.int q93.1, .int q95], (iq_sh l, q94.2, q93.2.2.1, q93.2.2.2))) (fun _ => rfl) ?_
  rcases iq_ite h with ⟨hc_, h⟩ | ⟨hc_, h⟩
  · refine iq_G_pos (c := q95 = q93.1) (σ1 := (2152, [some (.ref 0), some (.ref 1), some (.ref 76), some (.ref 114), some (.int x4), some (.int q93.1), some (.int q94.1), none], [], (iq_sh l, q94.2, q93.2.2.1, q93.2.2.2))) (fun _ => rfl) hc_ ?_
    refine iq_G_go (k := 1) (σ' := (2154, [some (.ref 0), some (.ref 1), some (.ref 76), some (.ref 114), some (.int x4), some (.int q93.1), some (.int q94.1), none], [.int q93.1], (iq_sh l, q94.2, q93.2.2.1, q93.2.2.2))) (fun _ => rfl) ?_
    rcases iq_ite h with ⟨hc_, h⟩ | ⟨hc_, h⟩
    · refine iq_G_pos (c := ¬ q93.1 = 0) (σ1 := (2169, [some (.ref 0), some (.ref 1), some (.ref 76), some (.ref 114), some (.int x4), some (.int q93.1), some (.int q94.1), none], [], (iq_sh l, q94.2, q93.2.2.1, q93.2.2.2))) (fun _ => rfl) hc_ ?_
      refine iq_G_go (k := 1) (σ' := (2524, [some (.ref 0), some (.ref 1), some (.ref 76), some (.ref 114), some (.int x4), some (.int q93.1), some (.int q94.1), none], [], (iq_sh l, q94.2, q93.2.2.1, q93.2.2.2))) (fun _ => rfl) ?_
      refine iq_G_go (k := 2) (σ' := (23, [some (.ref 0), some (.ref 1), some (.ref 76), some (.ref 114), some (.int (x4 + (6 : Int32))), some (.int q93.1), some (.int q94.1), none], [], (iq_sh l, q94.2, q93.2.2.1, q93.2.2.2))) (fun _ => rfl) ?_
      cases h
      exact iq_G_fg (L := [some (.ref 0), some (.ref 1), some (.ref 76), some (.ref 114), some (.int (x4 + (6 : Int32))), none, none, none]) (And.intro rfl (And.intro rfl (And.intro rfl (And.intro rfl (And.intro rfl trivial))))) (hc ((x4 + (6 : Int32)), q94.2, q93.2.2.1, q93.2.2.2) rfl)
    · refine iq_G_neg (c := ¬ q93.1 = 0) (σ1 := (2157, [some (.ref 0), some (.ref 1), some (.ref 76), some (.ref 114), some (.int x4), some (.int q93.1), some (.int q94.1), none], [], (iq_sh l, q94.2, q93.2.2.1, q93.2.2.2))) (fun _ => rfl) hc_ ?_
      refine iq_G_go (k := 2) (σ' := (2159, [some (.ref 0), some (.ref 1), some (.ref 76), some (.ref 114), some (.int x4), some (.int q93.1), some (.int q94.1), none], [.int (0 : Int32), .ref 114], (iq_sh l, q94.2, q93.2.2.1, q93.2.2.2))) (fun _ => rfl) ?_
      refine iq_G_go (k := 1) (σ' := (2160, [some (.ref 0), some (.ref 1), some (.ref 76), some (.ref 114), some (.int x4), some (.int q93.1), some (.int q94.1), none], [.long (q93.2.2.1 114 0)], (iq_sh l, q94.2, q93.2.2.1, q93.2.2.2))) (fun _ => rfl) ?_
      refine iq_G_go (k := 3) (σ' := (2164, [some (.ref 0), some (.ref 1), some (.ref 76), some (.ref 114), some (.int x4), some (.int q93.1), some (.int q94.1), none], [.int (lg_cmp (q93.2.2.1 114 0) (Int32.toInt64 q94.1))], (iq_sh l, q94.2, q93.2.2.1, q93.2.2.2))) (fun _ => rfl) ?_
      rcases iq_ite h with ⟨hc_, h⟩ | ⟨hc_, h⟩
      · refine iq_G_pos (c := (lg_cmp (q93.2.2.1 114 0) (Int32.toInt64 q94.1)) = 0) (σ1 := (2169, [some (.ref 0), some (.ref 1), some (.ref 76), some (.ref 114), some (.int x4), some (.int q93.1), some (.int q94.1), none], [], (iq_sh l, q94.2, q93.2.2.1, q93.2.2.2))) (fun _ => rfl) hc_ ?_
        refine iq_G_go (k := 1) (σ' := (2524, [some (.ref 0), some (.ref 1), some (.ref 76), some (.ref 114), some (.int x4), some (.int q93.1), some (.int q94.1), none], [], (iq_sh l, q94.2, q93.2.2.1, q93.2.2.2))) (fun _ => rfl) ?_
        refine iq_G_go (k := 2) (σ' := (23, [some (.ref 0), some (.ref 1), some (.ref 76), some (.ref 114), some (.int (x4 + (6 : Int32))), some (.int q93.1), some (.int q94.1), none], [], (iq_sh l, q94.2, q93.2.2.1, q93.2.2.2))) (fun _ => rfl) ?_
        cases h
        exact iq_G_fg (L := [some (.ref 0), some (.ref 1), some (.ref 76), some (.ref 114), some (.int (x4 + (6 : Int32))), none, none, none]) (And.intro rfl (And.intro rfl (And.intro rfl (And.intro rfl (And.intro rfl trivial))))) (hc ((x4 + (6 : Int32)), q94.2, q93.2.2.1, q93.2.2.2) rfl)
      · refine iq_G_neg (c := (lg_cmp (q93.2.2.1 114 0) (Int32.toInt64 q94.1)) = 0) (σ1 := (2167, [some (.ref 0), some (.ref 1), some (.ref 76), some (.ref 114), some (.int x4), some (.int q93.1), some (.int q94.1), none], [], (iq_sh l, q94.2, q93.2.2.1, q93.2.2.2))) (fun _ => rfl) hc_ ?_
        refine iq_G_go (k := 1) (σ' := (2168, [some (.ref 0), some (.ref 1), some (.ref 76), some (.ref 114), some (.int x4), some (.int q93.1), some (.int q94.1), none], [.int (0 : Int32)], (iq_sh l, q94.2, q93.2.2.1, q93.2.2.2))) (fun _ => rfl) ?_
        cases h
        obtain rfl := (hx _ rfl).2 _ rfl
        exact iq_G_ret (fun _ => rfl)
  · refine iq_G_neg (c := q95 = q93.1) (σ1 := (2150, [some (.ref 0), some (.ref 1), some (.ref 76), some (.ref 114), some (.int x4), some (.int q93.1), some (.int q94.1), none], [], (iq_sh l, q94.2, q93.2.2.1, q93.2.2.2))) (fun _ => rfl) hc_ ?_
    refine iq_G_go (k := 1) (σ' := (2151, [some (.ref 0), some (.ref 1), some (.ref 76), some (.ref 114), some (.int x4), some (.int q93.1), some (.int q94.1), none], [.int (0 : Int32)], (iq_sh l, q94.2, q93.2.2.1, q93.2.2.2))) (fun _ => rfl) ?_
    cases h
    obtain rfl := (hx _ rfl).2 _ rfl
    exact iq_G_ret (fun _ => rfl)
