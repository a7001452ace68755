/-! ===== the abstract machine does the same (printed by wip/whole/emitall.py, split.py) ===== -/
set_option maxRecDepth 100000 in
theorem zM_mends_l9_bok (l : Nat)  (x1 : Int32) (x2 : Int32) (J : iq_J) (X : iq_X) (x3 : Int32) (I : iq_I) {q : (Int32 × iq_I) ⊕ (iq_I)} (h : zM_mends_l9_b x1 x2 x3 I = some q) (r : iq_R × iq_M) (hc : ∀ v, q = .inl v → iq_Gg 1 301 (9, [some (.ref 76), some (.int x1), some (.int x2), some (.int v.1), none, none, none, none], [], (iq_sh l, v.2, J, X)) r) (hx : ∀ w, q = .inr w → iq_Gg 1 301 (35, [some (.ref 76), some (.int x1), some (.int x2), none, none, none, none, none], [], (iq_sh l, w, J, X)) r) : iq_Gg 1 301 (9, [some (.ref 76), some (.int x1), some (.int x2), some (.int x3), none, none, none, none], [], (iq_sh l, I, J, X)) r := by
  unfold zM_mends_l9_b at h
  refine iq_G_go (k := 3) (σ' := (14, [some (.ref 76), some (.int x1), some (.int x2), some (.int x3), none, none, none, none], [.int (I 76 1), .int x3], (iq_sh l, I, J, X))) (fun _ => rfl) ?_
  rcases iq_ite h with ⟨hc_, h⟩ | ⟨hc_, h⟩
  · refine iq_G_pos (c := (I 76 1) ≤ x3) (σ1 := (35, [some (.ref 76), some (.int x1), some (.int x2), some (.int x3), none, none, none, none], [], (iq_sh l, I, J, X))) (fun _ => rfl) hc_ ?_
    cases h
    exact iq_G_fg (L := [some (.ref 76), some (.int x1), some (.int x2), none, none, none, none, none]) (And.intro rfl (And.intro rfl (And.intro rfl trivial))) (hx I rfl)
  · refine iq_G_neg (c := (I 76 1) ≤ x3) (σ1 := (17, [some (.ref 76), some (.int x1), some (.int x2), some (.int x3), none, none, none, none], [], (iq_sh l, I, J, X))) (fun _ => rfl) hc_ ?_
    refine iq_G_go (k := 8) (σ' := (28, [some (.ref 76), some (.int x1), some (.int x2), some (.int x3), none, none, none, none], [.int (0 : Int32), .int (((10 : Int32) * x2) + x3), .ref 110], (iq_sh l, I, J, X))) (fun _ => rfl) ?_
    obtain ⟨hc_, h⟩ := iq_itn h
    refine iq_G_pos (c := iq_in (((10 : Int32) * x2) + x3) 410) (σ1 := (29, [some (.ref 76), some (.int x1), some (.int x2), some (.int x3), none, none, none, none], [], (iq_sh l, (iq_upI I 110 (Int32.toNatClampNeg (((10 : Int32) * x2) + x3)) (0 : Int32)), J, X))) (fun _ => rfl) hc_ ?_
    obtain ⟨I1, eI1, h⟩ := ir_letG h
    rw [← eI1]
    clear eI1
    refine iq_G_go (k := 2) (σ' := (9, [some (.ref 76), some (.int x1), some (.int x2), some (.int (x3 + (1 : Int32))), none, none, none, none], [], (iq_sh l, I1, J, X))) (fun _ => rfl) ?_
    cases h
    exact iq_G_fg (L := [some (.ref 76), some (.int x1), some (.int x2), some (.int (x3 + (1 : Int32))), none, none, none, none]) (And.intro rfl (And.intro rfl (And.intro rfl (And.intro rfl trivial)))) (hc ((x3 + (1 : Int32)), I1) rfl)
set_option maxRecDepth 100000 in
theorem zM_mends_l9_ok (l : Nat)  (x1 : Int32) (x2 : Int32) (J : iq_J) (X : iq_X) {n : Nat} {v : Int32 × iq_I} {w : iq_I} (h : zM_mends_l9 x1 x2 n v = some w) (r : iq_R × iq_M) (hq : iq_Gg 1 301 (35, [some (.ref 76), some (.int x1), some (.int x2), none, none, none, none, none], [], (iq_sh l, w, J, X)) r) : iq_Gg 1 301 (9, [some (.ref 76), some (.int x1), some (.int x2), some (.int v.1), none, none, none, none], [], (iq_sh l, v.2, J, X)) r :=
  iq_lp_ok (σ := fun v => (9, [some (.ref 76), some (.int x1), some (.int x2), some (.int v.1), none, none, none, none], [], (iq_sh l, v.2, J, X))) (Q := fun w r => iq_Gg 1 301 (35, [some (.ref 76), some (.int x1), some (.int x2), none, none, none, none, none], [], (iq_sh l, w, J, X)) r) (fun v q hv r h1 h2 => zM_mends_l9_bok l x1 x2 J X v.1 v.2 hv r h1 h2) h r hq
set_option maxRecDepth 100000 in
theorem zM_mends_127_ok (l : Nat)  (x1 : Int32) (x3 : Int32) (x4 : Int32) (x5 : Int32) (x6 : Int32) (s0 : Int32) (s1 : Int32) (I : iq_I) (J : iq_J) (X : iq_X)  {q : (Int32 × Int32) ⊕ (Int32)} (h : zM_mends_127 x1 x3 x4 x5 x6 s0 s1 I = some q) (r : iq_R × iq_M) (hc : ∀ v, q = .inl v → iq_Gg 1 301 (62, [some (.ref 76), some (.int x1), none, some (.int x3), some (.int x4), some (.int v.1), some (.int v.2), none], [], (iq_sh l, I, J, X)) r) (hx : ∀ w, q = .inr w → iq_Gg 1 301 (152, [some (.ref 76), some (.int x1), none, some (.int x3), some (.int x4), some (.int w), none, none], [], (iq_sh l, I, J, X)) r) : iq_Gg 1 301 (127, [some (.ref 76), some (.int x1), none, some (.int x3), some (.int x4), some (.int x5), some (.int x6), none], [.int s1, .int s0], (iq_sh l, I, J, X)) r := by
  unfold zM_mends_127 at h
  refine iq_G_go (k := 4) (σ' := (134, [some (.ref 76), some (.int x1), none, some (.int x3), some (.int x4), some (.int x5), some (.int x6), some (.int (s0 + s1))], [.int x5, .int (s0 + s1)], (iq_sh l, I, J, X))) (fun _ => rfl) ?_
  rcases iq_ite h with ⟨hc_, h⟩ | ⟨hc_, h⟩
  · refine iq_G_pos (c := x5 ≤ (s0 + s1)) (σ1 := (142, [some (.ref 76), some (.int x1), none, some (.int x3), some (.int x4), some (.int x5), some (.int x6), some (.int (s0 + s1))], [], (iq_sh l, I, J, X))) (fun _ => rfl) hc_ ?_
    refine iq_G_go (k := 4) (σ' := (62, [some (.ref 76), some (.int x1), none, some (.int x3), some (.int x4), some (.int x5), some (.int (x6 + (1 : Int32))), some (.int (s0 + s1))], [], (iq_sh l, I, J, X))) (fun _ => rfl) ?_
    cases h
    exact iq_G_fg (L := [some (.ref 76), some (.int x1), none, some (.int x3), some (.int x4), some (.int x5), some (.int (x6 + (1 : Int32))), none]) (And.intro rfl (And.intro rfl (And.intro rfl (And.intro rfl (And.intro rfl (And.intro rfl trivial)))))) (hc (x5, (x6 + (1 : Int32))) rfl)
  · refine iq_G_neg (c := x5 ≤ (s0 + s1)) (σ1 := (137, [some (.ref 76), some (.int x1), none, some (.int x3), some (.int x4), some (.int x5), some (.int x6), some (.int (s0 + s1))], [], (iq_sh l, I, J, X))) (fun _ => rfl) hc_ ?_
    refine iq_G_go (k := 5) (σ' := (62, [some (.ref 76), some (.int x1), none, some (.int x3), some (.int x4), some (.int (s0 + s1)), some (.int (x6 + (1 : Int32))), some (.int (s0 + s1))], [], (iq_sh l, I, J, X))) (fun _ => rfl) ?_
    cases h
    exact iq_G_fg (L := [some (.ref 76), some (.int x1), none, some (.int x3), some (.int x4), some (.int (s0 + s1)), some (.int (x6 + (1 : Int32))), none]) (And.intro rfl (And.intro rfl (And.intro rfl (And.intro rfl (And.intro rfl (And.intro rfl trivial)))))) (hc ((s0 + s1), (x6 + (1 : Int32))) rfl)
set_option maxRecDepth 100000 in
theorem zM_mends_l62_bok (l : Nat)  (x1 : Int32) (x3 : Int32) (x4 : Int32) (I : iq_I) (J : iq_J) (X : iq_X) (x5 : Int32) (x6 : Int32)  {q : (Int32 × Int32) ⊕ (Int32)} (h : zM_mends_l62_b x1 x3 x4 I x5 x6 = some q) (r : iq_R × iq_M) (hc : ∀ v, q = .inl v → iq_Gg 1 301 (62, [some (.ref 76), some (.int x1), none, some (.int x3), some (.int x4), some (.int v.1), some (.int v.2), none], [], (iq_sh l, I, J, X)) r) (hx : ∀ w, q = .inr w → iq_Gg 1 301 (152, [some (.ref 76), some (.int x1), none, some (.int x3), some (.int x4), some (.int w), none, none], [], (iq_sh l, I, J, X)) r) : iq_Gg 1 301 (62, [some (.ref 76), some (.int x1), none, some (.int x3), some (.int x4), some (.int x5), some (.int x6), none], [], (iq_sh l, I, J, X)) r := by
  unfold zM_mends_l62_b at h
  refine iq_G_go (k := 3) (σ' := (68, [some (.ref 76), some (.int x1), none, some (.int x3), some (.int x4), some (.int x5), some (.int x6), none], [.int (I 76 2), .int x6], (iq_sh l, I, J, X))) (fun _ => rfl) ?_
  rcases iq_ite h with ⟨hc_, h⟩ | ⟨hc_, h⟩
  · refine iq_G_pos (c := (I 76 2) ≤ x6) (σ1 := (152, [some (.ref 76), some (.int x1), none, some (.int x3), some (.int x4), some (.int x5), some (.int x6), none], [], (iq_sh l, I, J, X))) (fun _ => rfl) hc_ ?_
    cases h
    exact iq_G_fg (L := [some (.ref 76), some (.int x1), none, some (.int x3), some (.int x4), some (.int x5), none, none]) (And.intro rfl (And.intro rfl (And.intro rfl (And.intro rfl (And.intro rfl trivial))))) (hx x5 rfl)
  · refine iq_G_neg (c := (I 76 2) ≤ x6) (σ1 := (71, [some (.ref 76), some (.int x1), none, some (.int x3), some (.int x4), some (.int x5), some (.int x6), none], [], (iq_sh l, I, J, X))) (fun _ => rfl) hc_ ?_
    refine iq_G_go (k := 3) (σ' := (76, [some (.ref 76), some (.int x1), none, some (.int x3), some (.int x4), some (.int x5), some (.int x6), none], [.int x6, .int x4, .ref 76], (iq_sh l, I, J, X))) (fun _ => rfl) ?_
    obtain ⟨q3, hq3, h⟩ := iq_bnd h
    refine iq_G_call (σ' := (79, [some (.ref 76), some (.int x1), none, some (.int x3), some (.int x4), some (.int x5), some (.int x6), none], [.int q3], (iq_sh l, I, J, X))) (fun _ => rfl) (zM_leads_ok l x4 x6 I J X hq3) rfl rfl ?_
    refine iq_G_go (k := 1) (σ' := (80, [some (.ref 76), some (.int x1), none, some (.int x3), some (.int x4), some (.int x5), some (.int x6), none], [.int (-1 : Int32), .int q3], (iq_sh l, I, J, X))) (fun _ => rfl) ?_
    rcases iq_ite h with ⟨hc_, h⟩ | ⟨hc_, h⟩
    · refine iq_G_pos (c := ¬ q3 = (-1 : Int32)) (σ1 := (86, [some (.ref 76), some (.int x1), none, some (.int x3), some (.int x4), some (.int x5), some (.int x6), none], [], (iq_sh l, I, J, X))) (fun _ => rfl) hc_ ?_
      refine iq_G_go (k := 10) (σ' := (102, [some (.ref 76), some (.int x1), none, some (.int x3), some (.int x4), some (.int x5), some (.int x6), none], [.int x6, .int x4, .ref 76, .int (((10 : Int32) * x3) + (10 : Int32)), .ref 110], (iq_sh l, I, J, X))) (fun _ => rfl) ?_
      obtain ⟨q4, hq4, h⟩ := iq_bnd h
      refine iq_G_call (σ' := (105, [some (.ref 76), some (.int x1), none, some (.int x3), some (.int x4), some (.int x5), some (.int x6), none], [.int q4, .int (((10 : Int32) * x3) + (10 : Int32)), .ref 110], (iq_sh l, I, J, X))) (fun _ => rfl) (zM_leads_ok l x4 x6 I J X hq4) rfl rfl ?_
      refine iq_G_go (k := 1) (σ' := (106, [some (.ref 76), some (.int x1), none, some (.int x3), some (.int x4), some (.int x5), some (.int x6), none], [.int ((((10 : Int32) * x3) + (10 : Int32)) + q4), .ref 110], (iq_sh l, I, J, X))) (fun _ => rfl) ?_
      obtain ⟨hc_, h⟩ := iq_itn h
      refine iq_G_pos (c := iq_in ((((10 : Int32) * x3) + (10 : Int32)) + q4) 410) (σ1 := (107, [some (.ref 76), some (.int x1), none, some (.int x3), some (.int x4), some (.int x5), some (.int x6), none], [.int (I 110 (Int32.toNatClampNeg ((((10 : Int32) * x3) + (10 : Int32)) + q4)))], (iq_sh l, I, J, X))) (fun _ => rfl) hc_ ?_
      refine iq_G_go (k := 5) (σ' := (114, [some (.ref 76), some (.int x1), none, some (.int x3), some (.int x4), some (.int x5), some (.int x6), none], [.int x3, .int x1, .ref 98, .ref 76, .int (I 110 (Int32.toNatClampNeg ((((10 : Int32) * x3) + (10 : Int32)) + q4)))], (iq_sh l, I, J, X))) (fun _ => rfl) ?_
      obtain ⟨q5, hq5, h⟩ := iq_bnd h
      refine iq_G_call (σ' := (117, [some (.ref 76), some (.int x1), none, some (.int x3), some (.int x4), some (.int x5), some (.int x6), none], [.int q5, .int (I 110 (Int32.toNatClampNeg ((((10 : Int32) * x3) + (10 : Int32)) + q4)))], (iq_sh l, I, J, X))) (fun _ => rfl) (zM_wordAt_76_98_ok l x1 x3 I J X hq5) rfl rfl ?_
      refine iq_G_go (k := 1) (σ' := (119, [some (.ref 76), some (.int x1), none, some (.int x3), some (.int x4), some (.int x5), some (.int x6), none], [.int x6, .int q5, .int (I 110 (Int32.toNatClampNeg ((((10 : Int32) * x3) + (10 : Int32)) + q4)))], (iq_sh l, I, J, X))) (fun _ => rfl) ?_
      rcases iq_ite h with ⟨hc_, h⟩ | ⟨hc_, h⟩
      · refine iq_G_pos (c := ¬ q5 = x6) (σ1 := (126, [some (.ref 76), some (.int x1), none, some (.int x3), some (.int x4), some (.int x5), some (.int x6), none], [.int (I 110 (Int32.toNatClampNeg ((((10 : Int32) * x3) + (10 : Int32)) + q4)))], (iq_sh l, I, J, X))) (fun _ => rfl) hc_ ?_
        refine iq_G_go (k := 1) (σ' := (127, [some (.ref 76), some (.int x1), none, some (.int x3), some (.int x4), some (.int x5), some (.int x6), none], [.int (1 : Int32), .int (I 110 (Int32.toNatClampNeg ((((10 : Int32) * x3) + (10 : Int32)) + q4)))], (iq_sh l, I, J, X))) (fun _ => rfl) ?_
        exact iq_G_fg (L := [some (.ref 76), some (.int x1), none, some (.int x3), some (.int x4), some (.int x5), some (.int x6), none]) (And.intro rfl (And.intro rfl (And.intro rfl (And.intro rfl (And.intro rfl (And.intro rfl trivial)))))) (zM_mends_127_ok l x1 x3 x4 x5 x6 (I 110 (Int32.toNatClampNeg ((((10 : Int32) * x3) + (10 : Int32)) + q4))) (1 : Int32) I J X  h r hc hx)
      · refine iq_G_neg (c := ¬ q5 = x6) (σ1 := (122, [some (.ref 76), some (.int x1), none, some (.int x3), some (.int x4), some (.int x5), some (.int x6), none], [.int (I 110 (Int32.toNatClampNeg ((((10 : Int32) * x3) + (10 : Int32)) + q4)))], (iq_sh l, I, J, X))) (fun _ => rfl) hc_ ?_
        refine iq_G_go (k := 2) (σ' := (127, [some (.ref 76), some (.int x1), none, some (.int x3), some (.int x4), some (.int x5), some (.int x6), none], [.int (0 : Int32), .int (I 110 (Int32.toNatClampNeg ((((10 : Int32) * x3) + (10 : Int32)) + q4)))], (iq_sh l, I, J, X))) (fun _ => rfl) ?_
        exact iq_G_fg (L := [some (.ref 76), some (.int x1), none, some (.int x3), some (.int x4), some (.int x5), some (.int x6), none]) (And.intro rfl (And.intro rfl (And.intro rfl (And.intro rfl (And.intro rfl (And.intro rfl trivial)))))) (zM_mends_127_ok l x1 x3 x4 x5 x6 (I 110 (Int32.toNatClampNeg ((((10 : Int32) * x3) + (10 : Int32)) + q4))) (0 : Int32) I J X  h r hc hx)
    · refine iq_G_neg (c := ¬ q3 = (-1 : Int32)) (σ1 := (83, [some (.ref 76), some (.int x1), none, some (.int x3), some (.int x4), some (.int x5), some (.int x6), none], [], (iq_sh l, I, J, X))) (fun _ => rfl) hc_ ?_
      refine iq_G_go (k := 3) (σ' := (62, [some (.ref 76), some (.int x1), none, some (.int x3), some (.int x4), some (.int x5), some (.int (x6 + (1 : Int32))), none], [], (iq_sh l, I, J, X))) (fun _ => rfl) ?_
      cases h
      exact iq_G_fg (L := [some (.ref 76), some (.int x1), none, some (.int x3), some (.int x4), some (.int x5), some (.int (x6 + (1 : Int32))), none]) (And.intro rfl (And.intro rfl (And.intro rfl (And.intro rfl (And.intro rfl (And.intro rfl trivial)))))) (hc (x5, (x6 + (1 : Int32))) rfl)
set_option maxRecDepth 100000 in
theorem zM_mends_l62_ok (l : Nat)  (x1 : Int32) (x3 : Int32) (x4 : Int32) (I : iq_I) (J : iq_J) (X : iq_X) {n : Nat} {v : Int32 × Int32} {w : Int32} (h : zM_mends_l62 x1 x3 x4 I n v = some w) (r : iq_R × iq_M) (hq : iq_Gg 1 301 (152, [some (.ref 76), some (.int x1), none, some (.int x3), some (.int x4), some (.int w), none, none], [], (iq_sh l, I, J, X)) r) : iq_Gg 1 301 (62, [some (.ref 76), some (.int x1), none, some (.int x3), some (.int x4), some (.int v.1), some (.int v.2), none], [], (iq_sh l, I, J, X)) r :=
  iq_lp_ok (σ := fun v => (62, [some (.ref 76), some (.int x1), none, some (.int x3), some (.int x4), some (.int v.1), some (.int v.2), none], [], (iq_sh l, I, J, X))) (Q := fun w r => iq_Gg 1 301 (152, [some (.ref 76), some (.int x1), none, some (.int x3), some (.int x4), some (.int w), none, none], [], (iq_sh l, I, J, X)) r) (fun v q hv r h1 h2 => zM_mends_l62_bok l x1 x3 x4 I J X v.1 v.2 hv r h1 h2) h r hq
set_option maxRecDepth 100000 in
theorem zM_mends_l46_bok (l : Nat)  (x1 : Int32) (x3 : Int32) (J : iq_J) (X : iq_X) (x4 : Int32) (I : iq_I) {q : (Int32 × iq_I) ⊕ (iq_I)} (h : zM_mends_l46_b x1 x3 x4 I = some q) (r : iq_R × iq_M) (hc : ∀ v, q = .inl v → iq_Gg 1 301 (46, [some (.ref 76), some (.int x1), none, some (.int x3), some (.int v.1), none, none, none], [], (iq_sh l, v.2, J, X)) r) (hx : ∀ w, q = .inr w → iq_Gg 1 301 (172, [some (.ref 76), some (.int x1), none, some (.int x3), none, none, none, none], [], (iq_sh l, w, J, X)) r) : iq_Gg 1 301 (46, [some (.ref 76), some (.int x1), none, some (.int x3), some (.int x4), none, none, none], [], (iq_sh l, I, J, X)) r := by
  unfold zM_mends_l46_b at h
  refine iq_G_go (k := 3) (σ' := (52, [some (.ref 76), some (.int x1), none, some (.int x3), some (.int x4), none, none, none], [.int (I 76 1), .int x4], (iq_sh l, I, J, X))) (fun _ => rfl) ?_
  rcases iq_ite h with ⟨hc_, h⟩ | ⟨hc_, h⟩
  · refine iq_G_pos (c := (I 76 1) ≤ x4) (σ1 := (172, [some (.ref 76), some (.int x1), none, some (.int x3), some (.int x4), none, none, none], [], (iq_sh l, I, J, X))) (fun _ => rfl) hc_ ?_
    cases h
    exact iq_G_fg (L := [some (.ref 76), some (.int x1), none, some (.int x3), none, none, none, none]) (And.intro rfl (And.intro rfl (And.intro rfl trivial))) (hx I rfl)
  · refine iq_G_neg (c := (I 76 1) ≤ x4) (σ1 := (55, [some (.ref 76), some (.int x1), none, some (.int x3), some (.int x4), none, none, none], [], (iq_sh l, I, J, X))) (fun _ => rfl) hc_ ?_
    refine iq_G_go (k := 4) (σ' := (62, [some (.ref 76), some (.int x1), none, some (.int x3), some (.int x4), some (.int (99 : Int32)), some (.int (0 : Int32)), none], [], (iq_sh l, I, J, X))) (fun _ => rfl) ?_
    obtain ⟨w6, hw6, h⟩ := iq_bnd h
    refine iq_G_fg (L := [some (.ref 76), some (.int x1), none, some (.int x3), some (.int x4), some (.int (99 : Int32)), some (.int (0 : Int32)), none]) (And.intro rfl (And.intro rfl (And.intro rfl (And.intro rfl (And.intro rfl (And.intro rfl trivial)))))) ?_
    refine zM_mends_l62_ok l x1 x3 x4 I J X hw6 _ ?_
    show iq_Gg 1 301 (152, [some (.ref 76), some (.int x1), none, some (.int x3), some (.int x4), some (.int w6), none, none], [], (iq_sh l, I, J, X)) _
    refine iq_G_go (k := 8) (σ' := (165, [some (.ref 76), some (.int x1), none, some (.int x3), some (.int x4), some (.int w6), none, none], [.int w6, .int (((10 : Int32) * x3) + x4), .ref 110], (iq_sh l, I, J, X))) (fun _ => rfl) ?_
    obtain ⟨hc_, h⟩ := iq_itn h
    refine iq_G_pos (c := iq_in (((10 : Int32) * x3) + x4) 410) (σ1 := (166, [some (.ref 76), some (.int x1), none, some (.int x3), some (.int x4), some (.int w6), none, none], [], (iq_sh l, (iq_upI I 110 (Int32.toNatClampNeg (((10 : Int32) * x3) + x4)) w6), J, X))) (fun _ => rfl) hc_ ?_
    obtain ⟨I7, eI7, h⟩ := ir_letG h
    rw [← eI7]
    clear eI7
    refine iq_G_go (k := 2) (σ' := (46, [some (.ref 76), some (.int x1), none, some (.int x3), some (.int (x4 + (1 : Int32))), some (.int w6), none, none], [], (iq_sh l, I7, J, X))) (fun _ => rfl) ?_
    cases h
    exact iq_G_fg (L := [some (.ref 76), some (.int x1), none, some (.int x3), some (.int (x4 + (1 : Int32))), none, none, none]) (And.intro rfl (And.intro rfl (And.intro rfl (And.intro rfl trivial)))) (hc ((x4 + (1 : Int32)), I7) rfl)
set_option maxRecDepth 100000 in
theorem zM_mends_l46_ok (l : Nat)  (x1 : Int32) (x3 : Int32) (J : iq_J) (X : iq_X) {n : Nat} {v : Int32 × iq_I} {w : iq_I} (h : zM_mends_l46 x1 x3 n v = some w) (r : iq_R × iq_M) (hq : iq_Gg 1 301 (172, [some (.ref 76), some (.int x1), none, some (.int x3), none, none, none, none], [], (iq_sh l, w, J, X)) r) : iq_Gg 1 301 (46, [some (.ref 76), some (.int x1), none, some (.int x3), some (.int v.1), none, none, none], [], (iq_sh l, v.2, J, X)) r :=
  iq_lp_ok (σ := fun v => (46, [some (.ref 76), some (.int x1), none, some (.int x3), some (.int v.1), none, none, none], [], (iq_sh l, v.2, J, X))) (Q := fun w r => iq_Gg 1 301 (172, [some (.ref 76), some (.int x1), none, some (.int x3), none, none, none, none], [], (iq_sh l, w, J, X)) r) (fun v q hv r h1 h2 => zM_mends_l46_bok l x1 x3 J X v.1 v.2 hv r h1 h2) h r hq
set_option maxRecDepth 100000 in
theorem zM_mends_l39_bok (l : Nat)  (x1 : Int32) (J : iq_J) (X : iq_X) (x3 : Int32) (I : iq_I) {q : (Int32 × iq_I) ⊕ (iq_I)} (h : zM_mends_l39_b x1 x3 I = some q) (r : iq_R × iq_M) (hc : ∀ v, q = .inl v → iq_Gg 1 301 (39, [some (.ref 76), some (.int x1), none, some (.int v.1), none, none, none, none], [], (iq_sh l, v.2, J, X)) r) (hx : ∀ w, q = .inr w → iq_Gg 1 301 (178, [none, none, none, none, none, none, none, none], [], (iq_sh l, w, J, X)) r) : iq_Gg 1 301 (39, [some (.ref 76), some (.int x1), none, some (.int x3), none, none, none, none], [], (iq_sh l, I, J, X)) r := by
  unfold zM_mends_l39_b at h
  refine iq_G_go (k := 1) (σ' := (40, [some (.ref 76), some (.int x1), none, some (.int x3), none, none, none, none], [.int x3], (iq_sh l, I, J, X))) (fun _ => rfl) ?_
  rcases iq_ite h with ⟨hc_, h⟩ | ⟨hc_, h⟩
  · refine iq_G_pos (c := x3 < 0) (σ1 := (178, [some (.ref 76), some (.int x1), none, some (.int x3), none, none, none, none], [], (iq_sh l, I, J, X))) (fun _ => rfl) hc_ ?_
    cases h
    exact iq_G_fg (L := [none, none, none, none, none, none, none, none]) trivial (hx I rfl)
  · refine iq_G_neg (c := x3 < 0) (σ1 := (43, [some (.ref 76), some (.int x1), none, some (.int x3), none, none, none, none], [], (iq_sh l, I, J, X))) (fun _ => rfl) hc_ ?_
    refine iq_G_go (k := 2) (σ' := (46, [some (.ref 76), some (.int x1), none, some (.int x3), some (.int (0 : Int32)), none, none, none], [], (iq_sh l, I, J, X))) (fun _ => rfl) ?_
    obtain ⟨w8, hw8, h⟩ := iq_bnd h
    refine iq_G_fg (L := [some (.ref 76), some (.int x1), none, some (.int x3), some (.int (0 : Int32)), none, none, none]) (And.intro rfl (And.intro rfl (And.intro rfl (And.intro rfl trivial)))) ?_
    refine zM_mends_l46_ok l x1 x3 J X hw8 _ ?_
    show iq_Gg 1 301 (172, [some (.ref 76), some (.int x1), none, some (.int x3), none, none, none, none], [], (iq_sh l, w8, J, X)) _
    refine iq_G_go (k := 2) (σ' := (39, [some (.ref 76), some (.int x1), none, some (.int (x3 + (-1 : Int32))), none, none, none, none], [], (iq_sh l, w8, J, X))) (fun _ => rfl) ?_
    cases h
    exact iq_G_fg (L := [some (.ref 76), some (.int x1), none, some (.int (x3 + (-1 : Int32))), none, none, none, none]) (And.intro rfl (And.intro rfl (And.intro rfl trivial))) (hc ((x3 + (-1 : Int32)), w8) rfl)
set_option maxRecDepth 100000 in
theorem zM_mends_l39_ok (l : Nat)  (x1 : Int32) (J : iq_J) (X : iq_X) {n : Nat} {v : Int32 × iq_I} {w : iq_I} (h : zM_mends_l39 x1 n v = some w) (r : iq_R × iq_M) (hq : iq_Gg 1 301 (178, [none, none, none, none, none, none, none, none], [], (iq_sh l, w, J, X)) r) : iq_Gg 1 301 (39, [some (.ref 76), some (.int x1), none, some (.int v.1), none, none, none, none], [], (iq_sh l, v.2, J, X)) r :=
  iq_lp_ok (σ := fun v => (39, [some (.ref 76), some (.int x1), none, some (.int v.1), none, none, none, none], [], (iq_sh l, v.2, J, X))) (Q := fun w r => iq_Gg 1 301 (178, [none, none, none, none, none, none, none, none], [], (iq_sh l, w, J, X)) r) (fun v q hv r h1 h2 => zM_mends_l39_bok l x1 J X v.1 v.2 hv r h1 h2) h r hq
set_option maxRecDepth 100000 in
theorem zM_mends_ok (l : Nat)  (x1 : Int32) (I : iq_I) (J : iq_J) (X : iq_X) {q : iq_I} (h : zM_mends x1 I = some q) : iq_Cc 2 301 [.ref 76, .int x1] (iq_sh l, I, J, X) (.inl none, (iq_sh l, q, J, X)) := by
  refine iq_Cc_of (L := [some (.ref 76), some (.int x1), none, none, none, none, none, none]) rfl rfl ?_
  unfold zM_mends at h
  refine iq_G_go (k := 3) (σ' := (5, [some (.ref 76), some (.int x1), none, none, none, none, none, none], [.int x1, .ref 98], (iq_sh l, I, J, X))) (fun _ => rfl) ?_
  obtain ⟨hc_, h⟩ := iq_itn h
  refine iq_G_pos (c := iq_in x1 206) (σ1 := (6, [some (.ref 76), some (.int x1), none, none, none, none, none, none], [.int (I 98 (Int32.toNatClampNeg x1))], (iq_sh l, I, J, X))) (fun _ => rfl) hc_ ?_
  refine iq_G_go (k := 3) (σ' := (9, [some (.ref 76), some (.int x1), some (.int (I 98 (Int32.toNatClampNeg x1))), some (.int (0 : Int32)), none, none, none, none], [], (iq_sh l, I, J, X))) (fun _ => rfl) ?_
  obtain ⟨w2, hw2, h⟩ := iq_bnd h
  refine iq_G_fg (L := [some (.ref 76), some (.int x1), some (.int (I 98 (Int32.toNatClampNeg x1))), some (.int (0 : Int32)), none, none, none, none]) (And.intro rfl (And.intro rfl (And.intro rfl (And.intro rfl trivial)))) ?_
  refine zM_mends_l9_ok l x1 (I 98 (Int32.toNatClampNeg x1)) J X hw2 _ ?_
  show iq_Gg 1 301 (35, [some (.ref 76), some (.int x1), some (.int (I 98 (Int32.toNatClampNeg x1))), none, none, none, none, none], [], (iq_sh l, w2, J, X)) _
  refine iq_G_go (k := 4) (σ' := (39, [some (.ref 76), some (.int x1), some (.int (I 98 (Int32.toNatClampNeg x1))), some (.int ((I 98 (Int32.toNatClampNeg x1)) - (1 : Int32))), none, none, none, none], [], (iq_sh l, w2, J, X))) (fun _ => rfl) ?_
  obtain ⟨w9, hw9, h⟩ := iq_bnd h
  refine iq_G_fg (L := [some (.ref 76), some (.int x1), none, some (.int ((I 98 (Int32.toNatClampNeg x1)) - (1 : Int32))), none, none, none, none]) (And.intro rfl (And.intro rfl (And.intro rfl trivial))) ?_
  refine zM_mends_l39_ok l x1 J X hw9 _ ?_
  show iq_Gg 1 301 (178, [none, none, none, none, none, none, none, none], [], (iq_sh l, w9, J, X)) _
  cases h
  exact iq_G_ret (fun _ => rfl)
set_option maxRecDepth 100000 in
theorem zM_mend_176_ok (l : Nat)  (x1 : Int32) (x2 : Int32) (x4 : Int32) (x6 : Int32) (x7 : Int32) (s0 : Int32) (s1 : Int32) (I : iq_I) (J : iq_J) (X : iq_X)  {q : (Int32) ⊕ (Int32)} (h : zM_mend_176 x1 x2 x4 x6 x7 s0 s1 I = some q) (r : iq_R × iq_M) (hc : ∀ v, q = .inl v → iq_Gg 2 302 (121, [some (.ref 76), some (.int x1), some (.int x2), none, some (.int x4), none, some (.int x6), some (.int v)], [], (iq_sh l, I, J, X)) r) (hx : ∀ w, q = .inr w → iq_Gg 2 302 (199, [some (.ref 76), some (.int x1), some (.int x2), none, some (.int x4), none, some (.int x6), some (.int w)], [], (iq_sh l, I, J, X)) r) : iq_Gg 2 302 (176, [some (.ref 76), some (.int x1), some (.int x2), none, some (.int x4), none, some (.int x6), some (.int x7)], [.int s1, .int s0], (iq_sh l, I, J, X)) r := by
  unfold zM_mend_176 at h
  refine iq_G_go (k := 8) (σ' := (189, [some (.ref 76), some (.int x1), some (.int x2), none, some (.int x4), none, some (.int x6), some (.int x7)], [.int (((10 : Int32) * x6) + x4), .ref 110, .int (s0 + s1)], (iq_sh l, I, J, X))) (fun _ => rfl) ?_
  obtain ⟨hc_, h⟩ := iq_itn h
  refine iq_G_pos (c := iq_in (((10 : Int32) * x6) + x4) 410) (σ1 := (190, [some (.ref 76), some (.int x1), some (.int x2), none, some (.int x4), none, some (.int x6), some (.int x7)], [.int (I 110 (Int32.toNatClampNeg (((10 : Int32) * x6) + x4))), .int (s0 + s1)], (iq_sh l, I, J, X))) (fun _ => rfl) hc_ ?_
  rcases iq_ite h with ⟨hc_, h⟩ | ⟨hc_, h⟩
  · refine iq_G_pos (c := (s0 + s1) = (I 110 (Int32.toNatClampNeg (((10 : Int32) * x6) + x4)))) (σ1 := (199, [some (.ref 76), some (.int x1), some (.int x2), none, some (.int x4), none, some (.int x6), some (.int x7)], [], (iq_sh l, I, J, X))) (fun _ => rfl) hc_ ?_
    cases h
    exact iq_G_fg (L := [some (.ref 76), some (.int x1), some (.int x2), none, some (.int x4), none, some (.int x6), some (.int x7)]) (And.intro rfl (And.intro rfl (And.intro rfl (And.intro rfl (And.intro rfl (And.intro rfl trivial)))))) (hx x7 rfl)
  · refine iq_G_neg (c := (s0 + s1) = (I 110 (Int32.toNatClampNeg (((10 : Int32) * x6) + x4)))) (σ1 := (193, [some (.ref 76), some (.int x1), some (.int x2), none, some (.int x4), none, some (.int x6), some (.int x7)], [], (iq_sh l, I, J, X))) (fun _ => rfl) hc_ ?_
    refine iq_G_go (k := 2) (σ' := (121, [some (.ref 76), some (.int x1), some (.int x2), none, some (.int x4), none, some (.int x6), some (.int (x7 + (1 : Int32)))], [], (iq_sh l, I, J, X))) (fun _ => rfl) ?_
    cases h
    exact iq_G_fg (L := [some (.ref 76), some (.int x1), some (.int x2), none, some (.int x4), none, some (.int x6), some (.int (x7 + (1 : Int32)))]) (And.intro rfl (And.intro rfl (And.intro rfl (And.intro rfl (And.intro rfl (And.intro rfl trivial)))))) (hc (x7 + (1 : Int32)) rfl)
set_option maxRecDepth 100000 in
theorem zM_mend_l121_bok (l : Nat)  (x1 : Int32) (x2 : Int32) (x4 : Int32) (x6 : Int32) (I : iq_I) (J : iq_J) (X : iq_X) (x7 : Int32)  {q : (Int32) ⊕ (Int32)} (h : zM_mend_l121_b x1 x2 x4 x6 I x7 = some q) (r : iq_R × iq_M) (hc : ∀ v, q = .inl v → iq_Gg 2 302 (121, [some (.ref 76), some (.int x1), some (.int x2), none, some (.int x4), none, some (.int x6), some (.int v)], [], (iq_sh l, I, J, X)) r) (hx : ∀ w, q = .inr w → iq_Gg 2 302 (199, [some (.ref 76), some (.int x1), some (.int x2), none, some (.int x4), none, some (.int x6), some (.int w)], [], (iq_sh l, I, J, X)) r) : iq_Gg 2 302 (121, [some (.ref 76), some (.int x1), some (.int x2), none, some (.int x4), none, some (.int x6), some (.int x7)], [], (iq_sh l, I, J, X)) r := by
  unfold zM_mend_l121_b at h
  refine iq_G_go (k := 3) (σ' := (126, [some (.ref 76), some (.int x1), some (.int x2), none, some (.int x4), none, some (.int x6), some (.int x7)], [.int x7, .int x4, .ref 76], (iq_sh l, I, J, X))) (fun _ => rfl) ?_
  obtain ⟨q6, hq6, h⟩ := iq_bnd h
  refine iq_G_call (σ' := (129, [some (.ref 76), some (.int x1), some (.int x2), none, some (.int x4), none, some (.int x6), some (.int x7)], [.int q6], (iq_sh l, I, J, X))) (fun _ => rfl) (zM_leads_ok l x4 x7 I J X hq6) rfl rfl ?_
  refine iq_G_go (k := 1) (σ' := (130, [some (.ref 76), some (.int x1), some (.int x2), none, some (.int x4), none, some (.int x6), some (.int x7)], [.int (-1 : Int32), .int q6], (iq_sh l, I, J, X))) (fun _ => rfl) ?_
  rcases iq_ite h with ⟨hc_, h⟩ | ⟨hc_, h⟩
  · refine iq_G_pos (c := q6 = (-1 : Int32)) (σ1 := (193, [some (.ref 76), some (.int x1), some (.int x2), none, some (.int x4), none, some (.int x6), some (.int x7)], [], (iq_sh l, I, J, X))) (fun _ => rfl) hc_ ?_
    refine iq_G_go (k := 2) (σ' := (121, [some (.ref 76), some (.int x1), some (.int x2), none, some (.int x4), none, some (.int x6), some (.int (x7 + (1 : Int32)))], [], (iq_sh l, I, J, X))) (fun _ => rfl) ?_
    cases h
    exact iq_G_fg (L := [some (.ref 76), some (.int x1), some (.int x2), none, some (.int x4), none, some (.int x6), some (.int (x7 + (1 : Int32)))]) (And.intro rfl (And.intro rfl (And.intro rfl (And.intro rfl (And.intro rfl (And.intro rfl trivial)))))) (hc (x7 + (1 : Int32)) rfl)
  · refine iq_G_neg (c := q6 = (-1 : Int32)) (σ1 := (133, [some (.ref 76), some (.int x1), some (.int x2), none, some (.int x4), none, some (.int x6), some (.int x7)], [], (iq_sh l, I, J, X))) (fun _ => rfl) hc_ ?_
    refine iq_G_go (k := 10) (σ' := (150, [some (.ref 76), some (.int x1), some (.int x2), none, some (.int x4), none, some (.int x6), some (.int x7)], [.int x7, .int x4, .ref 76, .int (((10 : Int32) * x6) + (10 : Int32)), .ref 110], (iq_sh l, I, J, X))) (fun _ => rfl) ?_
    obtain ⟨q7, hq7, h⟩ := iq_bnd h
    refine iq_G_call (σ' := (153, [some (.ref 76), some (.int x1), some (.int x2), none, some (.int x4), none, some (.int x6), some (.int x7)], [.int q7, .int (((10 : Int32) * x6) + (10 : Int32)), .ref 110], (iq_sh l, I, J, X))) (fun _ => rfl) (zM_leads_ok l x4 x7 I J X hq7) rfl rfl ?_
    refine iq_G_go (k := 1) (σ' := (154, [some (.ref 76), some (.int x1), some (.int x2), none, some (.int x4), none, some (.int x6), some (.int x7)], [.int ((((10 : Int32) * x6) + (10 : Int32)) + q7), .ref 110], (iq_sh l, I, J, X))) (fun _ => rfl) ?_
    obtain ⟨hc_, h⟩ := iq_itn h
    refine iq_G_pos (c := iq_in ((((10 : Int32) * x6) + (10 : Int32)) + q7) 410) (σ1 := (155, [some (.ref 76), some (.int x1), some (.int x2), none, some (.int x4), none, some (.int x6), some (.int x7)], [.int (I 110 (Int32.toNatClampNeg ((((10 : Int32) * x6) + (10 : Int32)) + q7)))], (iq_sh l, I, J, X))) (fun _ => rfl) hc_ ?_
    refine iq_G_go (k := 5) (σ' := (163, [some (.ref 76), some (.int x1), some (.int x2), none, some (.int x4), none, some (.int x6), some (.int x7)], [.int x6, .int x1, .ref 98, .ref 76, .int (I 110 (Int32.toNatClampNeg ((((10 : Int32) * x6) + (10 : Int32)) + q7)))], (iq_sh l, I, J, X))) (fun _ => rfl) ?_
    obtain ⟨q8, hq8, h⟩ := iq_bnd h
    refine iq_G_call (σ' := (166, [some (.ref 76), some (.int x1), some (.int x2), none, some (.int x4), none, some (.int x6), some (.int x7)], [.int q8, .int (I 110 (Int32.toNatClampNeg ((((10 : Int32) * x6) + (10 : Int32)) + q7)))], (iq_sh l, I, J, X))) (fun _ => rfl) (zM_wordAt_76_98_ok l x1 x6 I J X hq8) rfl rfl ?_
    refine iq_G_go (k := 1) (σ' := (168, [some (.ref 76), some (.int x1), some (.int x2), none, some (.int x4), none, some (.int x6), some (.int x7)], [.int x7, .int q8, .int (I 110 (Int32.toNatClampNeg ((((10 : Int32) * x6) + (10 : Int32)) + q7)))], (iq_sh l, I, J, X))) (fun _ => rfl) ?_
    rcases iq_ite h with ⟨hc_, h⟩ | ⟨hc_, h⟩
    · refine iq_G_pos (c := ¬ q8 = x7) (σ1 := (175, [some (.ref 76), some (.int x1), some (.int x2), none, some (.int x4), none, some (.int x6), some (.int x7)], [.int (I 110 (Int32.toNatClampNeg ((((10 : Int32) * x6) + (10 : Int32)) + q7)))], (iq_sh l, I, J, X))) (fun _ => rfl) hc_ ?_
      refine iq_G_go (k := 1) (σ' := (176, [some (.ref 76), some (.int x1), some (.int x2), none, some (.int x4), none, some (.int x6), some (.int x7)], [.int (1 : Int32), .int (I 110 (Int32.toNatClampNeg ((((10 : Int32) * x6) + (10 : Int32)) + q7)))], (iq_sh l, I, J, X))) (fun _ => rfl) ?_
      exact iq_G_fg (L := [some (.ref 76), some (.int x1), some (.int x2), none, some (.int x4), none, some (.int x6), some (.int x7)]) (And.intro rfl (And.intro rfl (And.intro rfl (And.intro rfl (And.intro rfl (And.intro rfl trivial)))))) (zM_mend_176_ok l x1 x2 x4 x6 x7 (I 110 (Int32.toNatClampNeg ((((10 : Int32) * x6) + (10 : Int32)) + q7))) (1 : Int32) I J X  h r hc hx)
    · refine iq_G_neg (c := ¬ q8 = x7) (σ1 := (171, [some (.ref 76), some (.int x1), some (.int x2), none, some (.int x4), none, some (.int x6), some (.int x7)], [.int (I 110 (Int32.toNatClampNeg ((((10 : Int32) * x6) + (10 : Int32)) + q7)))], (iq_sh l, I, J, X))) (fun _ => rfl) hc_ ?_
      refine iq_G_go (k := 2) (σ' := (176, [some (.ref 76), some (.int x1), some (.int x2), none, some (.int x4), none, some (.int x6), some (.int x7)], [.int (0 : Int32), .int (I 110 (Int32.toNatClampNeg ((((10 : Int32) * x6) + (10 : Int32)) + q7)))], (iq_sh l, I, J, X))) (fun _ => rfl) ?_
      exact iq_G_fg (L := [some (.ref 76), some (.int x1), some (.int x2), none, some (.int x4), none, some (.int x6), some (.int x7)]) (And.intro rfl (And.intro rfl (And.intro rfl (And.intro rfl (And.intro rfl (And.intro rfl trivial)))))) (zM_mend_176_ok l x1 x2 x4 x6 x7 (I 110 (Int32.toNatClampNeg ((((10 : Int32) * x6) + (10 : Int32)) + q7))) (0 : Int32) I J X  h r hc hx)
set_option maxRecDepth 100000 in
theorem zM_mend_l121_ok (l : Nat)  (x1 : Int32) (x2 : Int32) (x4 : Int32) (x6 : Int32) (I : iq_I) (J : iq_J) (X : iq_X) {n : Nat} {v : Int32} {w : Int32} (h : zM_mend_l121 x1 x2 x4 x6 I n v = some w) (r : iq_R × iq_M) (hq : iq_Gg 2 302 (199, [some (.ref 76), some (.int x1), some (.int x2), none, some (.int x4), none, some (.int x6), some (.int w)], [], (iq_sh l, I, J, X)) r) : iq_Gg 2 302 (121, [some (.ref 76), some (.int x1), some (.int x2), none, some (.int x4), none, some (.int x6), some (.int v)], [], (iq_sh l, I, J, X)) r :=
  iq_lp_ok (σ := fun v => (121, [some (.ref 76), some (.int x1), some (.int x2), none, some (.int x4), none, some (.int x6), some (.int v)], [], (iq_sh l, I, J, X))) (Q := fun w r => iq_Gg 2 302 (199, [some (.ref 76), some (.int x1), some (.int x2), none, some (.int x4), none, some (.int x6), some (.int w)], [], (iq_sh l, I, J, X)) r) (fun v q hv r h1 h2 => zM_mend_l121_bok l x1 x2 x4 x6 I J X v hv r h1 h2) h r hq
set_option maxRecDepth 100000 in
theorem zM_mend_l112_bok (l : Nat)  (x1 : Int32) (x2 : Int32) (I : iq_I) (J : iq_J) (X : iq_X) (x4 : Int32) (x5 : Int32) (x6 : Int32)  {q : (Int32 × Int32 × Int32) ⊕ (Int32)} (h : zM_mend_l112_b x1 x2 I x4 x5 x6 = some q) (r : iq_R × iq_M) (hc : ∀ v, q = .inl v → iq_Gg 2 302 (112, [some (.ref 76), some (.int x1), some (.int x2), none, some (.int v.1), some (.int v.2.1), some (.int v.2.2), none], [], (iq_sh l, I, J, X)) r) (hx : ∀ w, q = .inr w → iq_Gg 2 302 (219, [none, none, none, none, none, some (.int w), none, none], [], (iq_sh l, I, J, X)) r) : iq_Gg 2 302 (112, [some (.ref 76), some (.int x1), some (.int x2), none, some (.int x4), some (.int x5), some (.int x6), none], [], (iq_sh l, I, J, X)) r := by
  unfold zM_mend_l112_b at h
  refine iq_G_go (k := 2) (σ' := (115, [some (.ref 76), some (.int x1), some (.int x2), none, some (.int x4), some (.int x5), some (.int x6), none], [.int x2, .int x6], (iq_sh l, I, J, X))) (fun _ => rfl) ?_
  rcases iq_ite h with ⟨hc_, h⟩ | ⟨hc_, h⟩
  · refine iq_G_pos (c := x2 < x6) (σ1 := (219, [some (.ref 76), some (.int x1), some (.int x2), none, some (.int x4), some (.int x5), some (.int x6), none], [], (iq_sh l, I, J, X))) (fun _ => rfl) hc_ ?_
    cases h
    exact iq_G_fg (L := [none, none, none, none, none, some (.int x5), none, none]) (And.intro rfl trivial) (hx x5 rfl)
  · refine iq_G_neg (c := x2 < x6) (σ1 := (118, [some (.ref 76), some (.int x1), some (.int x2), none, some (.int x4), some (.int x5), some (.int x6), none], [], (iq_sh l, I, J, X))) (fun _ => rfl) hc_ ?_
    refine iq_G_go (k := 2) (σ' := (121, [some (.ref 76), some (.int x1), some (.int x2), none, some (.int x4), some (.int x5), some (.int x6), some (.int (0 : Int32))], [], (iq_sh l, I, J, X))) (fun _ => rfl) ?_
    obtain ⟨w9, hw9, h⟩ := iq_bnd h
    refine iq_G_fg (L := [some (.ref 76), some (.int x1), some (.int x2), none, some (.int x4), none, some (.int x6), some (.int (0 : Int32))]) (And.intro rfl (And.intro rfl (And.intro rfl (And.intro rfl (And.intro rfl (And.intro rfl trivial)))))) ?_
    refine zM_mend_l121_ok l x1 x2 x4 x6 I J X hw9 _ ?_
    show iq_Gg 2 302 (199, [some (.ref 76), some (.int x1), some (.int x2), none, some (.int x4), none, some (.int x6), some (.int w9)], [], (iq_sh l, I, J, X)) _
    refine iq_G_go (k := 5) (σ' := (208, [some (.ref 76), some (.int x1), some (.int x2), none, some (.int x4), some (.int w9), some (.int x6), some (.int w9)], [.int w9, .int x4, .ref 76], (iq_sh l, I, J, X))) (fun _ => rfl) ?_
    obtain ⟨q10, hq10, h⟩ := iq_bnd h
    refine iq_G_call (σ' := (211, [some (.ref 76), some (.int x1), some (.int x2), none, some (.int x4), some (.int w9), some (.int x6), some (.int w9)], [.int q10], (iq_sh l, I, J, X))) (fun _ => rfl) (zM_leads_ok l x4 w9 I J X hq10) rfl rfl ?_
    refine iq_G_go (k := 3) (σ' := (112, [some (.ref 76), some (.int x1), some (.int x2), none, some (.int q10), some (.int w9), some (.int (x6 + (1 : Int32))), some (.int w9)], [], (iq_sh l, I, J, X))) (fun _ => rfl) ?_
    cases h
    exact iq_G_fg (L := [some (.ref 76), some (.int x1), some (.int x2), none, some (.int q10), some (.int w9), some (.int (x6 + (1 : Int32))), none]) (And.intro rfl (And.intro rfl (And.intro rfl (And.intro rfl (And.intro rfl (And.intro rfl trivial)))))) (hc (q10, w9, (x6 + (1 : Int32))) rfl)
set_option maxRecDepth 100000 in
theorem zM_mend_l112_ok (l : Nat)  (x1 : Int32) (x2 : Int32) (I : iq_I) (J : iq_J) (X : iq_X) {n : Nat} {v : Int32 × Int32 × Int32} {w : Int32} (h : zM_mend_l112 x1 x2 I n v = some w) (r : iq_R × iq_M) (hq : iq_Gg 2 302 (219, [none, none, none, none, none, some (.int w), none, none], [], (iq_sh l, I, J, X)) r) : iq_Gg 2 302 (112, [some (.ref 76), some (.int x1), some (.int x2), none, some (.int v.1), some (.int v.2.1), some (.int v.2.2), none], [], (iq_sh l, I, J, X)) r :=
  iq_lp_ok (σ := fun v => (112, [some (.ref 76), some (.int x1), some (.int x2), none, some (.int v.1), some (.int v.2.1), some (.int v.2.2), none], [], (iq_sh l, I, J, X))) (Q := fun w r => iq_Gg 2 302 (219, [none, none, none, none, none, some (.int w), none, none], [], (iq_sh l, I, J, X)) r) (fun v q hv r h1 h2 => zM_mend_l112_bok l x1 x2 I J X v.1 v.2.1 v.2.2 hv r h1 h2) h r hq
set_option maxRecDepth 100000 in
theorem zM_mend_89_ok (l : Nat)  (x1 : Int32) (x2 : Int32) (s1 : Int32) (I : iq_I) (J : iq_J) (X : iq_X)  {q : Int32 × iq_I} (h : zM_mend_89 x1 x2 s1 I = some q)  : iq_Gg 2 302 (89, [some (.ref 76), some (.int x1), some (.int x2), none, none, none, none, none], [.int s1, .ref 76], (iq_sh l, I, J, X)) (.inl (some (.int q.1)), (iq_sh l, q.2, J, X)) := by
  unfold zM_mend_89 at h
  refine iq_G_go (k := 1) (σ' := (90, [some (.ref 76), some (.int x1), some (.int x2), none, none, none, none, none], [.int (1 : Int32), .int s1, .ref 76], (iq_sh l, I, J, X))) (fun _ => rfl) ?_
  obtain ⟨q5, hq5, h⟩ := iq_bnd h
  refine iq_G_call (σ' := (93, [some (.ref 76), some (.int x1), some (.int x2), none, none, none, none, none], [.int q5.1], (iq_sh l, q5.2, J, X))) (fun _ => rfl) (zM_right_ok l s1 (1 : Int32) I J X hq5) rfl rfl ?_
  rcases iq_ite h with ⟨hc_, h⟩ | ⟨hc_, h⟩
  · refine iq_G_pos (c := ¬ q5.1 = 0) (σ1 := (98, [some (.ref 76), some (.int x1), some (.int x2), none, none, none, none, none], [], (iq_sh l, q5.2, J, X))) (fun _ => rfl) hc_ ?_
    refine iq_G_go (k := 3) (σ' := (103, [some (.ref 76), some (.int x1), some (.int x2), none, none, none, none, none], [.int x1, .ref 83], (iq_sh l, q5.2, J, X))) (fun _ => rfl) ?_
    obtain ⟨hc_, h⟩ := iq_itn h
    refine iq_G_pos (c := iq_in x1 5) (σ1 := (104, [some (.ref 76), some (.int x1), some (.int x2), none, none, none, none, none], [.int (q5.2 83 (Int32.toNatClampNeg x1))], (iq_sh l, q5.2, J, X))) (fun _ => rfl) hc_ ?_
    refine iq_G_go (k := 5) (σ' := (112, [some (.ref 76), some (.int x1), some (.int x2), none, some (.int (q5.2 83 (Int32.toNatClampNeg x1))), some (.int (-1 : Int32)), some (.int (0 : Int32)), none], [], (iq_sh l, q5.2, J, X))) (fun _ => rfl) ?_
    obtain ⟨w11, hw11, h⟩ := iq_bnd h
    refine iq_G_fg (L := [some (.ref 76), some (.int x1), some (.int x2), none, some (.int (q5.2 83 (Int32.toNatClampNeg x1))), some (.int (-1 : Int32)), some (.int (0 : Int32)), none]) (And.intro rfl (And.intro rfl (And.intro rfl (And.intro rfl (And.intro rfl (And.intro rfl trivial)))))) ?_
    refine zM_mend_l112_ok l x1 x2 q5.2 J X hw11 _ ?_
    show iq_Gg 2 302 (219, [none, none, none, none, none, some (.int w11), none, none], [], (iq_sh l, q5.2, J, X)) _
    refine iq_G_go (k := 1) (σ' := (221, [none, none, none, none, none, some (.int w11), none, none], [.int w11], (iq_sh l, q5.2, J, X))) (fun _ => rfl) ?_
    cases h
    exact iq_G_ret (fun _ => rfl)
  · refine iq_G_neg (c := ¬ q5.1 = 0) (σ1 := (96, [some (.ref 76), some (.int x1), some (.int x2), none, none, none, none, none], [], (iq_sh l, q5.2, J, X))) (fun _ => rfl) hc_ ?_
    refine iq_G_go (k := 1) (σ' := (97, [some (.ref 76), some (.int x1), some (.int x2), none, none, none, none, none], [.int (0 : Int32)], (iq_sh l, q5.2, J, X))) (fun _ => rfl) ?_
    cases h
    exact iq_G_ret (fun _ => rfl)
set_option maxRecDepth 100000 in
theorem zM_mend_34_ok (l : Nat)  (x1 : Int32) (x2 : Int32) (s1 : Int32) (I : iq_I) (J : iq_J) (X : iq_X)  {q : Int32 × iq_I} (h : zM_mend_34 x1 x2 s1 I = some q)  : iq_Gg 2 302 (34, [some (.ref 76), some (.int x1), some (.int x2), none, none, none, none, none], [.int s1, .ref 76], (iq_sh l, I, J, X)) (.inl (some (.int q.1)), (iq_sh l, q.2, J, X)) := by
  unfold zM_mend_34 at h
  refine iq_G_go (k := 1) (σ' := (35, [some (.ref 76), some (.int x1), some (.int x2), none, none, none, none, none], [.int (1 : Int32), .int s1, .ref 76], (iq_sh l, I, J, X))) (fun _ => rfl) ?_
  obtain ⟨q3, hq3, h⟩ := iq_bnd h
  refine iq_G_call (σ' := (38, [some (.ref 76), some (.int x1), some (.int x2), none, none, none, none, none], [.int q3.1], (iq_sh l, q3.2, J, X))) (fun _ => rfl) (zM_right_ok l s1 (1 : Int32) I J X hq3) rfl rfl ?_
  rcases iq_ite h with ⟨hc_, h⟩ | ⟨hc_, h⟩
  · refine iq_G_pos (c := ¬ q3.1 = 0) (σ1 := (43, [some (.ref 76), some (.int x1), some (.int x2), none, none, none, none, none], [], (iq_sh l, q3.2, J, X))) (fun _ => rfl) hc_ ?_
    refine iq_G_go (k := 2) (σ' := (45, [some (.ref 76), some (.int x1), some (.int x2), none, none, none, none, none], [.int x1, .ref 76], (iq_sh l, q3.2, J, X))) (fun _ => rfl) ?_
    obtain ⟨q4, hq4, h⟩ := iq_bnd h
    refine iq_G_call (σ' := (48, [some (.ref 76), some (.int x1), some (.int x2), none, none, none, none, none], [], (iq_sh l, q4, J, X))) (fun _ => rfl) (zM_mends_ok l x1 q3.2 J X hq4) rfl rfl ?_
    refine iq_G_go (k := 5) (σ' := (57, [some (.ref 76), some (.int x1), some (.int x2), none, none, none, none, none], [.int x1, .ref 83, .ref 110], (iq_sh l, q4, J, X))) (fun _ => rfl) ?_
    obtain ⟨hc_, h⟩ := iq_itn h
    refine iq_G_pos (c := iq_in x1 5) (σ1 := (58, [some (.ref 76), some (.int x1), some (.int x2), none, none, none, none, none], [.int (q4 83 (Int32.toNatClampNeg x1)), .ref 110], (iq_sh l, q4, J, X))) (fun _ => rfl) hc_ ?_
    obtain ⟨hc_, h⟩ := iq_itn h
    refine iq_G_pos (c := iq_in (q4 83 (Int32.toNatClampNeg x1)) 410) (σ1 := (59, [some (.ref 76), some (.int x1), some (.int x2), none, none, none, none, none], [.int (q4 110 (Int32.toNatClampNeg (q4 83 (Int32.toNatClampNeg x1))))], (iq_sh l, q4, J, X))) (fun _ => rfl) hc_ ?_
    refine iq_G_go (k := 3) (σ' := (62, [some (.ref 76), some (.int x1), some (.int x2), some (.int (q4 110 (Int32.toNatClampNeg (q4 83 (Int32.toNatClampNeg x1))))), none, none, none, none], [.int (-1 : Int32), .int x2], (iq_sh l, q4, J, X))) (fun _ => rfl) ?_
    rcases iq_ite h with ⟨hc_, h⟩ | ⟨hc_, h⟩
    · refine iq_G_pos (c := ¬ x2 = (-1 : Int32)) (σ1 := (77, [some (.ref 76), some (.int x1), some (.int x2), some (.int (q4 110 (Int32.toNatClampNeg (q4 83 (Int32.toNatClampNeg x1))))), none, none, none, none], [], (iq_sh l, q4, J, X))) (fun _ => rfl) hc_ ?_
      refine iq_G_go (k := 3) (σ' := (81, [some (.ref 76), some (.int x1), some (.int x2), some (.int (q4 110 (Int32.toNatClampNeg (q4 83 (Int32.toNatClampNeg x1))))), none, none, none, none], [.int (99 : Int32), .int (q4 110 (Int32.toNatClampNeg (q4 83 (Int32.toNatClampNeg x1)))), .ref 76], (iq_sh l, q4, J, X))) (fun _ => rfl) ?_
      rcases iq_ite h with ⟨hc_, h⟩ | ⟨hc_, h⟩
      · refine iq_G_pos (c := (99 : Int32) ≤ (q4 110 (Int32.toNatClampNeg (q4 83 (Int32.toNatClampNeg x1))))) (σ1 := (88, [some (.ref 76), some (.int x1), some (.int x2), some (.int (q4 110 (Int32.toNatClampNeg (q4 83 (Int32.toNatClampNeg x1))))), none, none, none, none], [.ref 76], (iq_sh l, q4, J, X))) (fun _ => rfl) hc_ ?_
        refine iq_G_go (k := 1) (σ' := (89, [some (.ref 76), some (.int x1), some (.int x2), some (.int (q4 110 (Int32.toNatClampNeg (q4 83 (Int32.toNatClampNeg x1))))), none, none, none, none], [.int (0 : Int32), .ref 76], (iq_sh l, q4, J, X))) (fun _ => rfl) ?_
        exact iq_G_fg (L := [some (.ref 76), some (.int x1), some (.int x2), none, none, none, none, none]) (And.intro rfl (And.intro rfl (And.intro rfl trivial))) (zM_mend_89_ok l x1 x2 (0 : Int32) q4 J X  h )
      · refine iq_G_neg (c := (99 : Int32) ≤ (q4 110 (Int32.toNatClampNeg (q4 83 (Int32.toNatClampNeg x1))))) (σ1 := (84, [some (.ref 76), some (.int x1), some (.int x2), some (.int (q4 110 (Int32.toNatClampNeg (q4 83 (Int32.toNatClampNeg x1))))), none, none, none, none], [.ref 76], (iq_sh l, q4, J, X))) (fun _ => rfl) hc_ ?_
        refine iq_G_go (k := 2) (σ' := (89, [some (.ref 76), some (.int x1), some (.int x2), some (.int (q4 110 (Int32.toNatClampNeg (q4 83 (Int32.toNatClampNeg x1))))), none, none, none, none], [.int (1 : Int32), .ref 76], (iq_sh l, q4, J, X))) (fun _ => rfl) ?_
        exact iq_G_fg (L := [some (.ref 76), some (.int x1), some (.int x2), none, none, none, none, none]) (And.intro rfl (And.intro rfl (And.intro rfl trivial))) (zM_mend_89_ok l x1 x2 (1 : Int32) q4 J X  h )
    · refine iq_G_neg (c := ¬ x2 = (-1 : Int32)) (σ1 := (65, [some (.ref 76), some (.int x1), some (.int x2), some (.int (q4 110 (Int32.toNatClampNeg (q4 83 (Int32.toNatClampNeg x1))))), none, none, none, none], [], (iq_sh l, q4, J, X))) (fun _ => rfl) hc_ ?_
      refine iq_G_go (k := 2) (σ' := (68, [some (.ref 76), some (.int x1), some (.int x2), some (.int (q4 110 (Int32.toNatClampNeg (q4 83 (Int32.toNatClampNeg x1))))), none, none, none, none], [.int (99 : Int32), .int (q4 110 (Int32.toNatClampNeg (q4 83 (Int32.toNatClampNeg x1))))], (iq_sh l, q4, J, X))) (fun _ => rfl) ?_
      rcases iq_ite h with ⟨hc_, h⟩ | ⟨hc_, h⟩
      · refine iq_G_pos (c := (q4 110 (Int32.toNatClampNeg (q4 83 (Int32.toNatClampNeg x1)))) < (99 : Int32)) (σ1 := (75, [some (.ref 76), some (.int x1), some (.int x2), some (.int (q4 110 (Int32.toNatClampNeg (q4 83 (Int32.toNatClampNeg x1))))), none, none, none, none], [], (iq_sh l, q4, J, X))) (fun _ => rfl) hc_ ?_
        refine iq_G_go (k := 1) (σ' := (76, [some (.ref 76), some (.int x1), some (.int x2), some (.int (q4 110 (Int32.toNatClampNeg (q4 83 (Int32.toNatClampNeg x1))))), none, none, none, none], [.int (q4 110 (Int32.toNatClampNeg (q4 83 (Int32.toNatClampNeg x1))))], (iq_sh l, q4, J, X))) (fun _ => rfl) ?_
        cases h
        exact iq_G_ret (fun _ => rfl)
      · refine iq_G_neg (c := (q4 110 (Int32.toNatClampNeg (q4 83 (Int32.toNatClampNeg x1)))) < (99 : Int32)) (σ1 := (71, [some (.ref 76), some (.int x1), some (.int x2), some (.int (q4 110 (Int32.toNatClampNeg (q4 83 (Int32.toNatClampNeg x1))))), none, none, none, none], [], (iq_sh l, q4, J, X))) (fun _ => rfl) hc_ ?_
        refine iq_G_go (k := 2) (σ' := (76, [some (.ref 76), some (.int x1), some (.int x2), some (.int (q4 110 (Int32.toNatClampNeg (q4 83 (Int32.toNatClampNeg x1))))), none, none, none, none], [.int (-1 : Int32)], (iq_sh l, q4, J, X))) (fun _ => rfl) ?_
        cases h
        exact iq_G_ret (fun _ => rfl)
  · refine iq_G_neg (c := ¬ q3.1 = 0) (σ1 := (41, [some (.ref 76), some (.int x1), some (.int x2), none, none, none, none, none], [], (iq_sh l, q3.2, J, X))) (fun _ => rfl) hc_ ?_
    refine iq_G_go (k := 1) (σ' := (42, [some (.ref 76), some (.int x1), some (.int x2), none, none, none, none, none], [.int (0 : Int32)], (iq_sh l, q3.2, J, X))) (fun _ => rfl) ?_
    cases h
    exact iq_G_ret (fun _ => rfl)
set_option maxRecDepth 100000 in
theorem zM_mend_33_ok (l : Nat)  (x1 : Int32) (x2 : Int32) (I : iq_I) (J : iq_J) (X : iq_X)  {q : Int32 × iq_I} (h : zM_mend_33 x1 x2 I = some q)  : iq_Gg 2 302 (33, [some (.ref 76), some (.int x1), some (.int x2), none, none, none, none, none], [.ref 76], (iq_sh l, I, J, X)) (.inl (some (.int q.1)), (iq_sh l, q.2, J, X)) := by
  unfold zM_mend_33 at h
  refine iq_G_go (k := 1) (σ' := (34, [some (.ref 76), some (.int x1), some (.int x2), none, none, none, none, none], [.int (0 : Int32), .ref 76], (iq_sh l, I, J, X))) (fun _ => rfl) ?_
  exact iq_G_fg (L := [some (.ref 76), some (.int x1), some (.int x2), none, none, none, none, none]) (And.intro rfl (And.intro rfl (And.intro rfl trivial))) (zM_mend_34_ok l x1 x2 (0 : Int32) I J X  h )
set_option maxRecDepth 100000 in
theorem zM_mend_ok (l : Nat)  (x1 : Int32) (x2 : Int32) (I : iq_I) (J : iq_J) (X : iq_X) {q : Int32 × iq_I} (h : zM_mend x1 x2 I = some q) : iq_Cc 3 302 [.ref 76, .int x1, .int x2] (iq_sh l, I, J, X) (.inl (some (.int q.1)), (iq_sh l, q.2, J, X)) := by
  refine iq_Cc_of (L := [some (.ref 76), some (.int x1), some (.int x2), none, none, none, none, none]) rfl rfl ?_
  unfold zM_mend at h
  refine iq_G_go (k := 2) (σ' := (2, [some (.ref 76), some (.int x1), some (.int x2), none, none, none, none, none], [.int (0 : Int32), .ref 76], (iq_sh l, I, J, X))) (fun _ => rfl) ?_
  refine iq_G_go (k := 1) (σ' := (5, [some (.ref 76), some (.int x1), some (.int x2), none, none, none, none, none], [], (iq_sh l, (iq_upI I 76 0 (0 : Int32)), J, X))) (fun _ => rfl) ?_
  obtain ⟨I1, eI1, h⟩ := ir_letG h
  rw [← eI1]
  clear eI1
  refine iq_G_go (k := 2) (σ' := (7, [some (.ref 76), some (.int x1), some (.int x2), none, none, none, none, none], [.int x1, .ref 76], (iq_sh l, I1, J, X))) (fun _ => rfl) ?_
  obtain ⟨q2, hq2, h⟩ := iq_bnd h
  refine iq_G_call (σ' := (10, [some (.ref 76), some (.int x1), some (.int x2), none, none, none, none, none], [.int q2.1], (iq_sh l, q2.2, J, X))) (fun _ => rfl) (zM_isSaying_ok l x1 I1 J X hq2) rfl rfl ?_
  rcases iq_ite h with ⟨hc_, h⟩ | ⟨hc_, h⟩
  · refine iq_G_pos (c := q2.1 = 0) (σ1 := (41, [some (.ref 76), some (.int x1), some (.int x2), none, none, none, none, none], [], (iq_sh l, q2.2, J, X))) (fun _ => rfl) hc_ ?_
    refine iq_G_go (k := 1) (σ' := (42, [some (.ref 76), some (.int x1), some (.int x2), none, none, none, none, none], [.int (0 : Int32)], (iq_sh l, q2.2, J, X))) (fun _ => rfl) ?_
    cases h
    exact iq_G_ret (fun _ => rfl)
  · refine iq_G_neg (c := q2.1 = 0) (σ1 := (13, [some (.ref 76), some (.int x1), some (.int x2), none, none, none, none, none], [], (iq_sh l, q2.2, J, X))) (fun _ => rfl) hc_ ?_
    refine iq_G_go (k := 3) (σ' := (16, [some (.ref 76), some (.int x1), some (.int x2), none, none, none, none, none], [.int (-1 : Int32), .int x2, .ref 76], (iq_sh l, q2.2, J, X))) (fun _ => rfl) ?_
    rcases iq_ite h with ⟨hc_, h⟩ | ⟨hc_, h⟩
    · refine iq_G_pos (c := x2 < (-1 : Int32)) (σ1 := (33, [some (.ref 76), some (.int x1), some (.int x2), none, none, none, none, none], [.ref 76], (iq_sh l, q2.2, J, X))) (fun _ => rfl) hc_ ?_
      exact iq_G_fg (L := [some (.ref 76), some (.int x1), some (.int x2), none, none, none, none, none]) (And.intro rfl (And.intro rfl (And.intro rfl trivial))) (zM_mend_33_ok l x1 x2 q2.2 J X  h )
    · refine iq_G_neg (c := x2 < (-1 : Int32)) (σ1 := (19, [some (.ref 76), some (.int x1), some (.int x2), none, none, none, none, none], [.ref 76], (iq_sh l, q2.2, J, X))) (fun _ => rfl) hc_ ?_
      refine iq_G_go (k := 4) (σ' := (25, [some (.ref 76), some (.int x1), some (.int x2), none, none, none, none, none], [.int x1, .ref 98, .int x2, .ref 76], (iq_sh l, q2.2, J, X))) (fun _ => rfl) ?_
      obtain ⟨hc_, h⟩ := iq_itn h
      refine iq_G_pos (c := iq_in x1 206) (σ1 := (26, [some (.ref 76), some (.int x1), some (.int x2), none, none, none, none, none], [.int (q2.2 98 (Int32.toNatClampNeg x1)), .int x2, .ref 76], (iq_sh l, q2.2, J, X))) (fun _ => rfl) hc_ ?_
      rcases iq_ite h with ⟨hc_, h⟩ | ⟨hc_, h⟩
      · refine iq_G_pos (c := (q2.2 98 (Int32.toNatClampNeg x1)) ≤ x2) (σ1 := (33, [some (.ref 76), some (.int x1), some (.int x2), none, none, none, none, none], [.ref 76], (iq_sh l, q2.2, J, X))) (fun _ => rfl) hc_ ?_
        exact iq_G_fg (L := [some (.ref 76), some (.int x1), some (.int x2), none, none, none, none, none]) (And.intro rfl (And.intro rfl (And.intro rfl trivial))) (zM_mend_33_ok l x1 x2 q2.2 J X  h )
      · refine iq_G_neg (c := (q2.2 98 (Int32.toNatClampNeg x1)) ≤ x2) (σ1 := (29, [some (.ref 76), some (.int x1), some (.int x2), none, none, none, none, none], [.ref 76], (iq_sh l, q2.2, J, X))) (fun _ => rfl) hc_ ?_
        refine iq_G_go (k := 2) (σ' := (34, [some (.ref 76), some (.int x1), some (.int x2), none, none, none, none, none], [.int (1 : Int32), .ref 76], (iq_sh l, q2.2, J, X))) (fun _ => rfl) ?_
        exact iq_G_fg (L := [some (.ref 76), some (.int x1), some (.int x2), none, none, none, none, none]) (And.intro rfl (And.intro rfl (And.intro rfl trivial))) (zM_mend_34_ok l x1 x2 (1 : Int32) q2.2 J X  h )
set_option maxRecDepth 100000 in
theorem zU_stateFrom_4_16_l13_bok (l : Nat)  (x2 : Int32) (x4 : Int32) (x6 : Int32) (I : iq_I) (J : iq_J) (X : iq_X) (x5 : Int32) (x7 : Int32)  {q : (Int32 × Int32) ⊕ (Int32)} (h : zU_stateFrom_4_16_l13_b x2 x4 x6 I x5 x7 = some q) (r : iq_R × iq_M) (hc : ∀ v, q = .inl v → iq_Gg 1 52 (13, [some (.ref 4), some (.ref 16), some (.int x2), none, some (.int x4), some (.int v.1), some (.int x6), some (.int v.2)], [], (iq_sh l, I, J, X)) r) (hx : ∀ w, q = .inr w → iq_Gg 1 52 (54, [none, none, none, none, none, some (.int w), none, none], [], (iq_sh l, I, J, X)) r) : iq_Gg 1 52 (13, [some (.ref 4), some (.ref 16), some (.int x2), none, some (.int x4), some (.int x5), some (.int x6), some (.int x7)], [], (iq_sh l, I, J, X)) r := by
  unfold zU_stateFrom_4_16_l13_b at h
  refine iq_G_go (k := 2) (σ' := (17, [some (.ref 4), some (.ref 16), some (.int x2), none, some (.int x4), some (.int x5), some (.int x6), some (.int x7)], [.int x6, .int x7], (iq_sh l, I, J, X))) (fun _ => rfl) ?_
  rcases iq_ite h with ⟨hc_, h⟩ | ⟨hc_, h⟩
  · refine iq_G_pos (c := x6 ≤ x7) (σ1 := (54, [some (.ref 4), some (.ref 16), some (.int x2), none, some (.int x4), some (.int x5), some (.int x6), some (.int x7)], [], (iq_sh l, I, J, X))) (fun _ => rfl) hc_ ?_
    cases h
    exact iq_G_fg (L := [none, none, none, none, none, some (.int x5), none, none]) (And.intro rfl trivial) (hx x5 rfl)
  · refine iq_G_neg (c := x6 ≤ x7) (σ1 := (20, [some (.ref 4), some (.ref 16), some (.int x2), none, some (.int x4), some (.int x5), some (.int x6), some (.int x7)], [], (iq_sh l, I, J, X))) (fun _ => rfl) hc_ ?_
    refine iq_G_go (k := 2) (σ' := (23, [some (.ref 4), some (.ref 16), some (.int x2), none, some (.int x4), some (.int x5), some (.int x6), some (.int x7)], [.int (-1 : Int32), .int x5], (iq_sh l, I, J, X))) (fun _ => rfl) ?_
    rcases iq_ite h with ⟨hc_, h⟩ | ⟨hc_, h⟩
    · refine iq_G_pos (c := x5 = (-1 : Int32)) (σ1 := (54, [some (.ref 4), some (.ref 16), some (.int x2), none, some (.int x4), some (.int x5), some (.int x6), some (.int x7)], [], (iq_sh l, I, J, X))) (fun _ => rfl) hc_ ?_
      cases h
      exact iq_G_fg (L := [none, none, none, none, none, some (.int x5), none, none]) (And.intro rfl trivial) (hx x5 rfl)
    · refine iq_G_neg (c := x5 = (-1 : Int32)) (σ1 := (26, [some (.ref 4), some (.ref 16), some (.int x2), none, some (.int x4), some (.int x5), some (.int x6), some (.int x7)], [], (iq_sh l, I, J, X))) (fun _ => rfl) hc_ ?_
      refine iq_G_go (k := 2) (σ' := (30, [some (.ref 4), some (.ref 16), some (.int x2), none, some (.int x4), some (.int x5), some (.int x6), some (.int x7)], [.int x4, .int x7], (iq_sh l, I, J, X))) (fun _ => rfl) ?_
      rcases iq_ite h with ⟨hc_, h⟩ | ⟨hc_, h⟩
      · refine iq_G_pos (c := x7 = x4) (σ1 := (48, [some (.ref 4), some (.ref 16), some (.int x2), none, some (.int x4), some (.int x5), some (.int x6), some (.int x7)], [], (iq_sh l, I, J, X))) (fun _ => rfl) hc_ ?_
        refine iq_G_go (k := 2) (σ' := (13, [some (.ref 4), some (.ref 16), some (.int x2), none, some (.int x4), some (.int x5), some (.int x6), some (.int (x7 + (1 : Int32)))], [], (iq_sh l, I, J, X))) (fun _ => rfl) ?_
        cases h
        exact iq_G_fg (L := [some (.ref 4), some (.ref 16), some (.int x2), none, some (.int x4), some (.int x5), some (.int x6), some (.int (x7 + (1 : Int32)))]) (And.intro rfl (And.intro rfl (And.intro rfl (And.intro rfl (And.intro rfl (And.intro rfl (And.intro rfl trivial))))))) (hc (x5, (x7 + (1 : Int32))) rfl)
      · refine iq_G_neg (c := x7 = x4) (σ1 := (33, [some (.ref 4), some (.ref 16), some (.int x2), none, some (.int x4), some (.int x5), some (.int x6), some (.int x7)], [], (iq_sh l, I, J, X))) (fun _ => rfl) hc_ ?_
        refine iq_G_go (k := 5) (σ' := (40, [some (.ref 4), some (.ref 16), some (.int x2), none, some (.int x4), some (.int x5), some (.int x6), some (.int x7)], [.int x7, .int x2, .ref 16, .int x5, .ref 4], (iq_sh l, I, J, X))) (fun _ => rfl) ?_
        obtain ⟨q2, hq2, h⟩ := iq_bnd h
        refine iq_G_call (σ' := (43, [some (.ref 4), some (.ref 16), some (.int x2), none, some (.int x4), some (.int x5), some (.int x6), some (.int x7)], [.int q2, .int x5, .ref 4], (iq_sh l, I, J, X))) (fun _ => rfl) (zG_wordAt_16_ok l x2 x7 I J X hq2) rfl rfl ?_
        obtain ⟨q3, hq3, h⟩ := iq_bnd h
        refine iq_G_call (σ' := (46, [some (.ref 4), some (.ref 16), some (.int x2), none, some (.int x4), some (.int x5), some (.int x6), some (.int x7)], [.int q3], (iq_sh l, I, J, X))) (fun _ => rfl) (zU_leadsTo_4_ok l x5 q2 I J X hq3) rfl rfl ?_
        refine iq_G_go (k := 3) (σ' := (13, [some (.ref 4), some (.ref 16), some (.int x2), none, some (.int x4), some (.int q3), some (.int x6), some (.int (x7 + (1 : Int32)))], [], (iq_sh l, I, J, X))) (fun _ => rfl) ?_
        cases h
        exact iq_G_fg (L := [some (.ref 4), some (.ref 16), some (.int x2), none, some (.int x4), some (.int q3), some (.int x6), some (.int (x7 + (1 : Int32)))]) (And.intro rfl (And.intro rfl (And.intro rfl (And.intro rfl (And.intro rfl (And.intro rfl (And.intro rfl trivial))))))) (hc (q3, (x7 + (1 : Int32))) rfl)
set_option maxRecDepth 100000 in
theorem zU_stateFrom_4_16_l13_ok (l : Nat)  (x2 : Int32) (x4 : Int32) (x6 : Int32) (I : iq_I) (J : iq_J) (X : iq_X) {n : Nat} {v : Int32 × Int32} {w : Int32} (h : zU_stateFrom_4_16_l13 x2 x4 x6 I n v = some w) (r : iq_R × iq_M) (hq : iq_Gg 1 52 (54, [none, none, none, none, none, some (.int w), none, none], [], (iq_sh l, I, J, X)) r) : iq_Gg 1 52 (13, [some (.ref 4), some (.ref 16), some (.int x2), none, some (.int x4), some (.int v.1), some (.int x6), some (.int v.2)], [], (iq_sh l, I, J, X)) r :=
  iq_lp_ok (σ := fun v => (13, [some (.ref 4), some (.ref 16), some (.int x2), none, some (.int x4), some (.int v.1), some (.int x6), some (.int v.2)], [], (iq_sh l, I, J, X))) (Q := fun w r => iq_Gg 1 52 (54, [none, none, none, none, none, some (.int w), none, none], [], (iq_sh l, I, J, X)) r) (fun v q hv r h1 h2 => zU_stateFrom_4_16_l13_bok l x2 x4 x6 I J X v.1 v.2 hv r h1 h2) h r hq
set_option maxRecDepth 100000 in
theorem zU_stateFrom_4_16_ok (l : Nat)  (x2 : Int32) (x3 : Int32) (x4 : Int32) (I : iq_I) (J : iq_J) (X : iq_X) {q : Int32} (h : zU_stateFrom_4_16 x2 x3 x4 I = some q) : iq_Cc 2 52 [.ref 4, .ref 16, .int x2, .int x3, .int x4] (iq_sh l, I, J, X) (.inl (some (.int q)), (iq_sh l, I, J, X)) := by
  refine iq_Cc_of (L := [some (.ref 4), some (.ref 16), some (.int x2), some (.int x3), some (.int x4), none, none, none]) rfl rfl ?_
  unfold zU_stateFrom_4_16 at h
  refine iq_G_go (k := 4) (σ' := (5, [some (.ref 4), some (.ref 16), some (.int x2), some (.int x3), some (.int x4), some (.int x3), none, none], [.int x2, .ref 16], (iq_sh l, I, J, X))) (fun _ => rfl) ?_
  obtain ⟨q1, hq1, h⟩ := iq_bnd h
  refine iq_G_call (σ' := (8, [some (.ref 4), some (.ref 16), some (.int x2), some (.int x3), some (.int x4), some (.int x3), none, none], [.int q1], (iq_sh l, I, J, X))) (fun _ => rfl) (zG_lengthOf_16_ok l x2 I J X hq1) rfl rfl ?_
  refine iq_G_go (k := 3) (σ' := (13, [some (.ref 4), some (.ref 16), some (.int x2), some (.int x3), some (.int x4), some (.int x3), some (.int q1), some (.int (0 : Int32))], [], (iq_sh l, I, J, X))) (fun _ => rfl) ?_
  obtain ⟨w4, hw4, h⟩ := iq_bnd h
  refine iq_G_fg (L := [some (.ref 4), some (.ref 16), some (.int x2), none, some (.int x4), some (.int x3), some (.int q1), some (.int (0 : Int32))]) (And.intro rfl (And.intro rfl (And.intro rfl (And.intro rfl (And.intro rfl (And.intro rfl (And.intro rfl trivial))))))) ?_
  refine zU_stateFrom_4_16_l13_ok l x2 x4 q1 I J X hw4 _ ?_
  show iq_Gg 1 52 (54, [none, none, none, none, none, some (.int w4), none, none], [], (iq_sh l, I, J, X)) _
  refine iq_G_go (k := 1) (σ' := (56, [none, none, none, none, none, some (.int w4), none, none], [.int w4], (iq_sh l, I, J, X))) (fun _ => rfl) ?_
  cases h
  exact iq_G_ret (fun _ => rfl)
set_option maxRecDepth 100000 in
theorem zU_stateOf_4_16_ok (l : Nat)  (x2 : Int32) (I : iq_I) (J : iq_J) (X : iq_X) {q : Int32} (h : zU_stateOf_4_16 x2 I = some q) : iq_Cc 3 51 [.ref 4, .ref 16, .int x2] (iq_sh l, I, J, X) (.inl (some (.int q)), (iq_sh l, I, J, X)) := by
  refine iq_Cc_of (L := [some (.ref 4), some (.ref 16), some (.int x2)]) rfl rfl ?_
  unfold zU_stateOf_4_16 at h
  refine iq_G_go (k := 5) (σ' := (5, [some (.ref 4), some (.ref 16), some (.int x2)], [.int x2, .ref 16, .int x2, .ref 16, .ref 4], (iq_sh l, I, J, X))) (fun _ => rfl) ?_
  obtain ⟨q1, hq1, h⟩ := iq_bnd h
  refine iq_G_call (σ' := (8, [some (.ref 4), some (.ref 16), some (.int x2)], [.int q1, .int x2, .ref 16, .ref 4], (iq_sh l, I, J, X))) (fun _ => rfl) (zG_beginOf_16_ok l x2 I J X hq1) rfl rfl ?_
  refine iq_G_go (k := 1) (σ' := (9, [some (.ref 4), some (.ref 16), some (.int x2)], [.int (-1 : Int32), .int q1, .int x2, .ref 16, .ref 4], (iq_sh l, I, J, X))) (fun _ => rfl) ?_
  obtain ⟨q2, hq2, h⟩ := iq_bnd h
  refine iq_G_call (σ' := (12, [some (.ref 4), some (.ref 16), some (.int x2)], [.int q2], (iq_sh l, I, J, X))) (fun _ => rfl) (zU_stateFrom_4_16_ok l x2 q1 (-1 : Int32) I J X hq2) rfl rfl ?_
  cases h
  exact iq_G_ret (fun _ => rfl)
set_option maxRecDepth 100000 in
theorem zU_leadsBy_4_ok (l : Nat)  (x1 : Int32) (x2 : Int32) (I : iq_I) (J : iq_J) (X : iq_X) {q : Int32} (h : zU_leadsBy_4 x1 x2 I = some q) : iq_Cc 1 48 [.ref 4, .int x1, .int x2] (iq_sh l, I, J, X) (.inl (some (.int q)), (iq_sh l, I, J, X)) := by
  refine iq_Cc_of (L := [some (.ref 4), some (.int x1), some (.int x2)]) rfl rfl ?_
  unfold zU_leadsBy_4 at h
  refine iq_G_go (k := 1) (σ' := (1, [some (.ref 4), some (.int x1), some (.int x2)], [.int x1], (iq_sh l, I, J, X))) (fun _ => rfl) ?_
  rcases iq_ite h with ⟨hc_, h⟩ | ⟨hc_, h⟩
  · refine iq_G_pos (c := x1 < 0) (σ1 := (22, [some (.ref 4), some (.int x1), some (.int x2)], [], (iq_sh l, I, J, X))) (fun _ => rfl) hc_ ?_
    refine iq_G_go (k := 1) (σ' := (23, [some (.ref 4), some (.int x1), some (.int x2)], [.int (-1 : Int32)], (iq_sh l, I, J, X))) (fun _ => rfl) ?_
    cases h
    exact iq_G_ret (fun _ => rfl)
  · refine iq_G_neg (c := x1 < 0) (σ1 := (4, [some (.ref 4), some (.int x1), some (.int x2)], [], (iq_sh l, I, J, X))) (fun _ => rfl) hc_ ?_
    refine iq_G_go (k := 3) (σ' := (9, [some (.ref 4), some (.int x1), some (.int x2)], [.int (I 4 0), .int x1], (iq_sh l, I, J, X))) (fun _ => rfl) ?_
    rcases iq_ite h with ⟨hc_, h⟩ | ⟨hc_, h⟩
    · refine iq_G_pos (c := (I 4 0) ≤ x1) (σ1 := (22, [some (.ref 4), some (.int x1), some (.int x2)], [], (iq_sh l, I, J, X))) (fun _ => rfl) hc_ ?_
      refine iq_G_go (k := 1) (σ' := (23, [some (.ref 4), some (.int x1), some (.int x2)], [.int (-1 : Int32)], (iq_sh l, I, J, X))) (fun _ => rfl) ?_
      cases h
      exact iq_G_ret (fun _ => rfl)
    · refine iq_G_neg (c := (I 4 0) ≤ x1) (σ1 := (12, [some (.ref 4), some (.int x1), some (.int x2)], [], (iq_sh l, I, J, X))) (fun _ => rfl) hc_ ?_
      refine iq_G_go (k := 1) (σ' := (13, [some (.ref 4), some (.int x1), some (.int x2)], [.int x2], (iq_sh l, I, J, X))) (fun _ => rfl) ?_
      rcases iq_ite h with ⟨hc_, h⟩ | ⟨hc_, h⟩
      · refine iq_G_pos (c := x2 < 0) (σ1 := (22, [some (.ref 4), some (.int x1), some (.int x2)], [], (iq_sh l, I, J, X))) (fun _ => rfl) hc_ ?_
        refine iq_G_go (k := 1) (σ' := (23, [some (.ref 4), some (.int x1), some (.int x2)], [.int (-1 : Int32)], (iq_sh l, I, J, X))) (fun _ => rfl) ?_
        cases h
        exact iq_G_ret (fun _ => rfl)
      · refine iq_G_neg (c := x2 < 0) (σ1 := (16, [some (.ref 4), some (.int x1), some (.int x2)], [], (iq_sh l, I, J, X))) (fun _ => rfl) hc_ ?_
        refine iq_G_go (k := 2) (σ' := (19, [some (.ref 4), some (.int x1), some (.int x2)], [.int (8 : Int32), .int x2], (iq_sh l, I, J, X))) (fun _ => rfl) ?_
        rcases iq_ite h with ⟨hc_, h⟩ | ⟨hc_, h⟩
        · refine iq_G_pos (c := x2 < (8 : Int32)) (σ1 := (24, [some (.ref 4), some (.int x1), some (.int x2)], [], (iq_sh l, I, J, X))) (fun _ => rfl) hc_ ?_
          refine iq_G_go (k := 7) (σ' := (34, [some (.ref 4), some (.int x1), some (.int x2)], [.int ((x1 * (8 : Int32)) + x2), .ref 14], (iq_sh l, I, J, X))) (fun _ => rfl) ?_
          obtain ⟨hc_, h⟩ := iq_itn h
          refine iq_G_pos (c := iq_in ((x1 * (8 : Int32)) + x2) 80) (σ1 := (35, [some (.ref 4), some (.int x1), some (.int x2)], [.int (I 14 (Int32.toNatClampNeg ((x1 * (8 : Int32)) + x2)))], (iq_sh l, I, J, X))) (fun _ => rfl) hc_ ?_
          cases h
          exact iq_G_ret (fun _ => rfl)
        · refine iq_G_neg (c := x2 < (8 : Int32)) (σ1 := (22, [some (.ref 4), some (.int x1), some (.int x2)], [], (iq_sh l, I, J, X))) (fun _ => rfl) hc_ ?_
          refine iq_G_go (k := 1) (σ' := (23, [some (.ref 4), some (.int x1), some (.int x2)], [.int (-1 : Int32)], (iq_sh l, I, J, X))) (fun _ => rfl) ?_
          cases h
          exact iq_G_ret (fun _ => rfl)
set_option maxRecDepth 100000 in
theorem zU_someFollows_l2_bok (l : Nat)  (x1 : Int32) (I : iq_I) (J : iq_J) (X : iq_X) (x2 : Int32)  {q : (Int32) ⊕ ((Unit) ⊕ (Int32))} (h : zU_someFollows_l2_b x1 I x2 = some q) (r : iq_R × iq_M) (hc : ∀ v, q = .inl v → iq_Gg 1 50 (2, [some (.ref 4), some (.int x1), some (.int v)], [], (iq_sh l, I, J, X)) r) (hx : ∀ w, q = .inr w → (∀ a, w = .inl a → iq_Gg 1 50 (37, [none, none, none], [], (iq_sh l, I, J, X)) r) ∧ (∀ b, w = .inr b → r = (.inl (some (.int b)), (iq_sh l, I, J, X)))) : iq_Gg 1 50 (2, [some (.ref 4), some (.int x1), some (.int x2)], [], (iq_sh l, I, J, X)) r := by
  unfold zU_someFollows_l2_b at h
  refine iq_G_go (k := 2) (σ' := (5, [some (.ref 4), some (.int x1), some (.int x2)], [.int (8 : Int32), .int x2], (iq_sh l, I, J, X))) (fun _ => rfl) ?_
  rcases iq_ite h with ⟨hc_, h⟩ | ⟨hc_, h⟩
  · refine iq_G_pos (c := (8 : Int32) ≤ x2) (σ1 := (37, [some (.ref 4), some (.int x1), some (.int x2)], [], (iq_sh l, I, J, X))) (fun _ => rfl) hc_ ?_
    cases h
    exact iq_G_fg (L := [none, none, none]) trivial ((hx (.inl ()) rfl).1 () rfl)
  · refine iq_G_neg (c := (8 : Int32) ≤ x2) (σ1 := (8, [some (.ref 4), some (.int x1), some (.int x2)], [], (iq_sh l, I, J, X))) (fun _ => rfl) hc_ ?_
    refine iq_G_go (k := 6) (σ' := (16, [some (.ref 4), some (.int x1), some (.int x2)], [.int (((I 4 4) >>> (x2 &&& 31)) &&& (1 : Int32))], (iq_sh l, I, J, X))) (fun _ => rfl) ?_
    rcases iq_ite h with ⟨hc_, h⟩ | ⟨hc_, h⟩
    · refine iq_G_pos (c := (((I 4 4) >>> (x2 &&& 31)) &&& (1 : Int32)) = 0) (σ1 := (31, [some (.ref 4), some (.int x1), some (.int x2)], [], (iq_sh l, I, J, X))) (fun _ => rfl) hc_ ?_
      refine iq_G_go (k := 2) (σ' := (2, [some (.ref 4), some (.int x1), some (.int (x2 + (1 : Int32)))], [], (iq_sh l, I, J, X))) (fun _ => rfl) ?_
      cases h
      exact iq_G_fg (L := [some (.ref 4), some (.int x1), some (.int (x2 + (1 : Int32)))]) (And.intro rfl (And.intro rfl (And.intro rfl trivial))) (hc (x2 + (1 : Int32)) rfl)
    · refine iq_G_neg (c := (((I 4 4) >>> (x2 &&& 31)) &&& (1 : Int32)) = 0) (σ1 := (19, [some (.ref 4), some (.int x1), some (.int x2)], [], (iq_sh l, I, J, X))) (fun _ => rfl) hc_ ?_
      refine iq_G_go (k := 3) (σ' := (22, [some (.ref 4), some (.int x1), some (.int x2)], [.int x2, .int x1, .ref 4], (iq_sh l, I, J, X))) (fun _ => rfl) ?_
      obtain ⟨q1, hq1, h⟩ := iq_bnd h
      refine iq_G_call (σ' := (25, [some (.ref 4), some (.int x1), some (.int x2)], [.int q1], (iq_sh l, I, J, X))) (fun _ => rfl) (zU_leadsBy_4_ok l x1 x2 I J X hq1) rfl rfl ?_
      refine iq_G_go (k := 1) (σ' := (26, [some (.ref 4), some (.int x1), some (.int x2)], [.int (-1 : Int32), .int q1], (iq_sh l, I, J, X))) (fun _ => rfl) ?_
      rcases iq_ite h with ⟨hc_, h⟩ | ⟨hc_, h⟩
      · refine iq_G_pos (c := q1 = (-1 : Int32)) (σ1 := (31, [some (.ref 4), some (.int x1), some (.int x2)], [], (iq_sh l, I, J, X))) (fun _ => rfl) hc_ ?_
        refine iq_G_go (k := 2) (σ' := (2, [some (.ref 4), some (.int x1), some (.int (x2 + (1 : Int32)))], [], (iq_sh l, I, J, X))) (fun _ => rfl) ?_
        cases h
        exact iq_G_fg (L := [some (.ref 4), some (.int x1), some (.int (x2 + (1 : Int32)))]) (And.intro rfl (And.intro rfl (And.intro rfl trivial))) (hc (x2 + (1 : Int32)) rfl)
      · refine iq_G_neg (c := q1 = (-1 : Int32)) (σ1 := (29, [some (.ref 4), some (.int x1), some (.int x2)], [], (iq_sh l, I, J, X))) (fun _ => rfl) hc_ ?_
        refine iq_G_go (k := 1) (σ' := (30, [some (.ref 4), some (.int x1), some (.int x2)], [.int (1 : Int32)], (iq_sh l, I, J, X))) (fun _ => rfl) ?_
        cases h
        obtain rfl := (hx _ rfl).2 _ rfl
        exact iq_G_ret (fun _ => rfl)
set_option maxRecDepth 100000 in
theorem zU_someFollows_l2_ok (l : Nat)  (x1 : Int32) (I : iq_I) (J : iq_J) (X : iq_X) {n : Nat} {v : Int32} {w : (Unit) ⊕ (Int32)} (h : zU_someFollows_l2 x1 I n v = some w) (r : iq_R × iq_M) (hq : (∀ a, w = .inl a → iq_Gg 1 50 (37, [none, none, none], [], (iq_sh l, I, J, X)) r) ∧ (∀ b, w = .inr b → r = (.inl (some (.int b)), (iq_sh l, I, J, X)))) : iq_Gg 1 50 (2, [some (.ref 4), some (.int x1), some (.int v)], [], (iq_sh l, I, J, X)) r :=
  iq_lp_ok (σ := fun v => (2, [some (.ref 4), some (.int x1), some (.int v)], [], (iq_sh l, I, J, X))) (Q := fun w r => (∀ a, w = .inl a → iq_Gg 1 50 (37, [none, none, none], [], (iq_sh l, I, J, X)) r) ∧ (∀ b, w = .inr b → r = (.inl (some (.int b)), (iq_sh l, I, J, X)))) (fun v q hv r h1 h2 => zU_someFollows_l2_bok l x1 I J X v hv r h1 h2) h r hq
set_option maxRecDepth 100000 in
theorem zU_someFollows_ok (l : Nat)  (x1 : Int32) (I : iq_I) (J : iq_J) (X : iq_X) {q : Int32} (h : zU_someFollows x1 I = some q) : iq_Cc 2 50 [.ref 4, .int x1] (iq_sh l, I, J, X) (.inl (some (.int q)), (iq_sh l, I, J, X)) := by
  refine iq_Cc_of (L := [some (.ref 4), some (.int x1), none]) rfl rfl ?_
  unfold zU_someFollows at h
  refine iq_G_go (k := 2) (σ' := (2, [some (.ref 4), some (.int x1), some (.int (0 : Int32))], [], (iq_sh l, I, J, X))) (fun _ => rfl) ?_
  obtain ⟨w2, hw2, h⟩ := iq_bnd h
  refine iq_G_fg (L := [some (.ref 4), some (.int x1), some (.int (0 : Int32))]) (And.intro rfl (And.intro rfl (And.intro rfl trivial))) ?_
  refine zU_someFollows_l2_ok l x1 I J X hw2 _ ⟨fun a3 ha => ?_, fun b4 hb => ?_⟩
  · subst ha
    replace h := ir_smL h
    show iq_Gg 1 50 (37, [none, none, none], [], (iq_sh l, I, J, X)) _
    refine iq_G_go (k := 1) (σ' := (38, [none, none, none], [.int (0 : Int32)], (iq_sh l, I, J, X))) (fun _ => rfl) ?_
    cases h
    exact iq_G_ret (fun _ => rfl)
  · subst hb
    replace h := ir_smR h
    cases h
    rfl
set_option maxRecDepth 100000 in
theorem zH_isFree_69_16_ok (l : Nat)  (x2 : Int32) (x3 : Int32) (x4 : Int32) (I : iq_I) (J : iq_J) (X : iq_X) {q : Int32} (h : zH_isFree_69_16 x2 x3 x4 I = some q) : iq_Cc 3 21 [.ref 69, .ref 16, .int x2, .int x3, .int x4] (iq_sh l, I, J, X) (.inl (some (.int q)), (iq_sh l, I, J, X)) := by
  refine iq_Cc_of (L := [some (.ref 69), some (.ref 16), some (.int x2), some (.int x3), some (.int x4), none]) rfl rfl ?_
  unfold zH_isFree_69_16 at h
  refine iq_G_go (k := 4) (σ' := (7, [some (.ref 69), some (.ref 16), some (.int x2), some (.int x3), some (.int x4), none], [.int x4, .int x3, .ref 4], (iq_sh l, I, J, X))) (fun _ => rfl) ?_
  obtain ⟨q1, hq1, h⟩ := iq_bnd h
  refine iq_G_call (σ' := (10, [some (.ref 69), some (.ref 16), some (.int x2), some (.int x3), some (.int x4), none], [.int q1], (iq_sh l, I, J, X))) (fun _ => rfl) (zU_leadsTo_4_ok l x3 x4 I J X hq1) rfl rfl ?_
  refine iq_G_go (k := 3) (σ' := (15, [some (.ref 69), some (.ref 16), some (.int x2), some (.int x3), some (.int x4), some (.int q1)], [.int (-1 : Int32), .int q1], (iq_sh l, I, J, X))) (fun _ => rfl) ?_
  rcases iq_ite h with ⟨hc_, h⟩ | ⟨hc_, h⟩
  · refine iq_G_pos (c := q1 = (-1 : Int32)) (σ1 := (44, [some (.ref 69), some (.ref 16), some (.int x2), some (.int x3), some (.int x4), some (.int q1)], [], (iq_sh l, I, J, X))) (fun _ => rfl) hc_ ?_
    refine iq_G_go (k := 1) (σ' := (45, [some (.ref 69), some (.ref 16), some (.int x2), some (.int x3), some (.int x4), some (.int q1)], [.int (0 : Int32)], (iq_sh l, I, J, X))) (fun _ => rfl) ?_
    cases h
    exact iq_G_ret (fun _ => rfl)
  · refine iq_G_neg (c := q1 = (-1 : Int32)) (σ1 := (18, [some (.ref 69), some (.ref 16), some (.int x2), some (.int x3), some (.int x4), some (.int q1)], [], (iq_sh l, I, J, X))) (fun _ => rfl) hc_ ?_
    refine iq_G_go (k := 3) (σ' := (24, [some (.ref 69), some (.ref 16), some (.int x2), some (.int x3), some (.int x4), some (.int q1)], [.int q1, .ref 4], (iq_sh l, I, J, X))) (fun _ => rfl) ?_
    obtain ⟨q2, hq2, h⟩ := iq_bnd h
    refine iq_G_call (σ' := (27, [some (.ref 69), some (.ref 16), some (.int x2), some (.int x3), some (.int x4), some (.int q1)], [.int q2], (iq_sh l, I, J, X))) (fun _ => rfl) (zU_someFollows_ok l q1 I J X hq2) rfl rfl ?_
    rcases iq_ite h with ⟨hc_, h⟩ | ⟨hc_, h⟩
    · refine iq_G_pos (c := q2 = 0) (σ1 := (44, [some (.ref 69), some (.ref 16), some (.int x2), some (.int x3), some (.int x4), some (.int q1)], [], (iq_sh l, I, J, X))) (fun _ => rfl) hc_ ?_
      refine iq_G_go (k := 1) (σ' := (45, [some (.ref 69), some (.ref 16), some (.int x2), some (.int x3), some (.int x4), some (.int q1)], [.int (0 : Int32)], (iq_sh l, I, J, X))) (fun _ => rfl) ?_
      cases h
      exact iq_G_ret (fun _ => rfl)
    · refine iq_G_neg (c := q2 = 0) (σ1 := (30, [some (.ref 69), some (.ref 16), some (.int x2), some (.int x3), some (.int x4), some (.int q1)], [], (iq_sh l, I, J, X))) (fun _ => rfl) hc_ ?_
      refine iq_G_go (k := 2) (σ' := (32, [some (.ref 69), some (.ref 16), some (.int x2), some (.int x3), some (.int x4), some (.int q1)], [.int x2, .ref 16], (iq_sh l, I, J, X))) (fun _ => rfl) ?_
      obtain ⟨q3, hq3, h⟩ := iq_bnd h
      refine iq_G_call (σ' := (35, [some (.ref 69), some (.ref 16), some (.int x2), some (.int x3), some (.int x4), some (.int q1)], [.int q3], (iq_sh l, I, J, X))) (fun _ => rfl) (zG_lengthOf_16_ok l x2 I J X hq3) rfl rfl ?_
      refine iq_G_go (k := 1) (σ' := (37, [some (.ref 69), some (.ref 16), some (.int x2), some (.int x3), some (.int x4), some (.int q1)], [.int (40 : Int32), .int q3], (iq_sh l, I, J, X))) (fun _ => rfl) ?_
      rcases iq_ite h with ⟨hc_, h⟩ | ⟨hc_, h⟩
      · refine iq_G_pos (c := (40 : Int32) ≤ q3) (σ1 := (44, [some (.ref 69), some (.ref 16), some (.int x2), some (.int x3), some (.int x4), some (.int q1)], [], (iq_sh l, I, J, X))) (fun _ => rfl) hc_ ?_
        refine iq_G_go (k := 1) (σ' := (45, [some (.ref 69), some (.ref 16), some (.int x2), some (.int x3), some (.int x4), some (.int q1)], [.int (0 : Int32)], (iq_sh l, I, J, X))) (fun _ => rfl) ?_
        cases h
        exact iq_G_ret (fun _ => rfl)
      · refine iq_G_neg (c := (40 : Int32) ≤ q3) (σ1 := (40, [some (.ref 69), some (.ref 16), some (.int x2), some (.int x3), some (.int x4), some (.int q1)], [], (iq_sh l, I, J, X))) (fun _ => rfl) hc_ ?_
        refine iq_G_go (k := 2) (σ' := (45, [some (.ref 69), some (.ref 16), some (.int x2), some (.int x3), some (.int x4), some (.int q1)], [.int (1 : Int32)], (iq_sh l, I, J, X))) (fun _ => rfl) ?_
        cases h
        exact iq_G_ret (fun _ => rfl)
set_option maxRecDepth 100000 in
theorem zU_lastLetter_ok (l : Nat)  (x1 : Int32) (I : iq_I) (J : iq_J) (X : iq_X) {q : Int32} (h : zU_lastLetter x1 I = some q) : iq_Cc 1 44 [.ref 4, .int x1] (iq_sh l, I, J, X) (.inl (some (.int q)), (iq_sh l, I, J, X)) := by
  refine iq_Cc_of (L := [some (.ref 4), some (.int x1)]) rfl rfl ?_
  unfold zU_lastLetter at h
  refine iq_G_go (k := 1) (σ' := (1, [some (.ref 4), some (.int x1)], [.int x1], (iq_sh l, I, J, X))) (fun _ => rfl) ?_
  rcases iq_ite h with ⟨hc_, h⟩ | ⟨hc_, h⟩
  · refine iq_G_pos (c := x1 < 0) (σ1 := (32, [some (.ref 4), some (.int x1)], [], (iq_sh l, I, J, X))) (fun _ => rfl) hc_ ?_
    refine iq_G_go (k := 1) (σ' := (33, [some (.ref 4), some (.int x1)], [.int (0 : Int32)], (iq_sh l, I, J, X))) (fun _ => rfl) ?_
    cases h
    exact iq_G_ret (fun _ => rfl)
  · refine iq_G_neg (c := x1 < 0) (σ1 := (4, [some (.ref 4), some (.int x1)], [], (iq_sh l, I, J, X))) (fun _ => rfl) hc_ ?_
    refine iq_G_go (k := 3) (σ' := (9, [some (.ref 4), some (.int x1)], [.int (I 4 2), .int x1], (iq_sh l, I, J, X))) (fun _ => rfl) ?_
    rcases iq_ite h with ⟨hc_, h⟩ | ⟨hc_, h⟩
    · refine iq_G_pos (c := (I 4 2) ≤ x1) (σ1 := (32, [some (.ref 4), some (.int x1)], [], (iq_sh l, I, J, X))) (fun _ => rfl) hc_ ?_
      refine iq_G_go (k := 1) (σ' := (33, [some (.ref 4), some (.int x1)], [.int (0 : Int32)], (iq_sh l, I, J, X))) (fun _ => rfl) ?_
      cases h
      exact iq_G_ret (fun _ => rfl)
    · refine iq_G_neg (c := (I 4 2) ≤ x1) (σ1 := (12, [some (.ref 4), some (.int x1)], [], (iq_sh l, I, J, X))) (fun _ => rfl) hc_ ?_
      refine iq_G_go (k := 3) (σ' := (17, [some (.ref 4), some (.int x1)], [.int x1, .ref 5], (iq_sh l, I, J, X))) (fun _ => rfl) ?_
      obtain ⟨hc_, h⟩ := iq_itn h
      refine iq_G_pos (c := iq_in x1 14) (σ1 := (18, [some (.ref 4), some (.int x1)], [.int (I 5 (Int32.toNatClampNeg x1))], (iq_sh l, I, J, X))) (fun _ => rfl) hc_ ?_
      rcases iq_ite h with ⟨hc_, h⟩ | ⟨hc_, h⟩
      · refine iq_G_pos (c := (I 5 (Int32.toNatClampNeg x1)) ≤ 0) (σ1 := (32, [some (.ref 4), some (.int x1)], [], (iq_sh l, I, J, X))) (fun _ => rfl) hc_ ?_
        refine iq_G_go (k := 1) (σ' := (33, [some (.ref 4), some (.int x1)], [.int (0 : Int32)], (iq_sh l, I, J, X))) (fun _ => rfl) ?_
        cases h
        exact iq_G_ret (fun _ => rfl)
      · refine iq_G_neg (c := (I 5 (Int32.toNatClampNeg x1)) ≤ 0) (σ1 := (21, [some (.ref 4), some (.int x1)], [], (iq_sh l, I, J, X))) (fun _ => rfl) hc_ ?_
        refine iq_G_go (k := 3) (σ' := (26, [some (.ref 4), some (.int x1)], [.int x1, .ref 5], (iq_sh l, I, J, X))) (fun _ => rfl) ?_
        obtain ⟨hc_, h⟩ := iq_itn h
        refine iq_G_pos (c := iq_in x1 14) (σ1 := (27, [some (.ref 4), some (.int x1)], [.int (I 5 (Int32.toNatClampNeg x1))], (iq_sh l, I, J, X))) (fun _ => rfl) hc_ ?_
        refine iq_G_go (k := 1) (σ' := (29, [some (.ref 4), some (.int x1)], [.int (9 : Int32), .int (I 5 (Int32.toNatClampNeg x1))], (iq_sh l, I, J, X))) (fun _ => rfl) ?_
        rcases iq_ite h with ⟨hc_, h⟩ | ⟨hc_, h⟩
        · refine iq_G_pos (c := (I 5 (Int32.toNatClampNeg x1)) ≤ (9 : Int32)) (σ1 := (34, [some (.ref 4), some (.int x1)], [], (iq_sh l, I, J, X))) (fun _ => rfl) hc_ ?_
          refine iq_G_go (k := 8) (σ' := (47, [some (.ref 4), some (.int x1)], [.int x1, .ref 5, .int (x1 * (9 : Int32)), .ref 13], (iq_sh l, I, J, X))) (fun _ => rfl) ?_
          obtain ⟨hc_, h⟩ := iq_itn h
          refine iq_G_pos (c := iq_in x1 14) (σ1 := (48, [some (.ref 4), some (.int x1)], [.int (I 5 (Int32.toNatClampNeg x1)), .int (x1 * (9 : Int32)), .ref 13], (iq_sh l, I, J, X))) (fun _ => rfl) hc_ ?_
          refine iq_G_go (k := 3) (σ' := (51, [some (.ref 4), some (.int x1)], [.int (((x1 * (9 : Int32)) + (I 5 (Int32.toNatClampNeg x1))) - (1 : Int32)), .ref 13], (iq_sh l, I, J, X))) (fun _ => rfl) ?_
          obtain ⟨hc_, h⟩ := iq_itn h
          have st_ : ∀ (z_0 : Int32) (r_ : iq_R × iq_M), iq_in z_0 126 → iq_Gg 0 44 (52, [some (.ref 4), some (.int x1)], [.int (I 13 (Int32.toNatClampNeg z_0))], (iq_sh l, I, J, X)) r_ → iq_Gg 0 44 (51, [some (.ref 4), some (.int x1)], [.int z_0, .ref 13], (iq_sh l, I, J, X)) r_ := fun z_0 r_ hc_ hg_ => iq_G_pos (c := iq_in z_0 126) (σ1 := (52, [some (.ref 4), some (.int x1)], [.int (I 13 (Int32.toNatClampNeg z_0))], (iq_sh l, I, J, X))) (fun _ => rfl) hc_ hg_
          refine st_ (((x1 * (9 : Int32)) + (I 5 (Int32.toNatClampNeg x1))) - (1 : Int32)) _ hc_ ?_
          clear st_
          cases h
          exact iq_G_ret (fun _ => rfl)
        · refine iq_G_neg (c := (I 5 (Int32.toNatClampNeg x1)) ≤ (9 : Int32)) (σ1 := (32, [some (.ref 4), some (.int x1)], [], (iq_sh l, I, J, X))) (fun _ => rfl) hc_ ?_
          refine iq_G_go (k := 1) (σ' := (33, [some (.ref 4), some (.int x1)], [.int (0 : Int32)], (iq_sh l, I, J, X))) (fun _ => rfl) ?_
          cases h
          exact iq_G_ret (fun _ => rfl)
set_option maxRecDepth 100000 in
theorem zU_lengthOf_4_ok (l : Nat)  (x1 : Int32) (I : iq_I) (J : iq_J) (X : iq_X) {q : Int32} (h : zU_lengthOf_4 x1 I = some q) : iq_Cc 1 45 [.ref 4, .int x1] (iq_sh l, I, J, X) (.inl (some (.int q)), (iq_sh l, I, J, X)) := by
  refine iq_Cc_of (L := [some (.ref 4), some (.int x1)]) rfl rfl ?_
  unfold zU_lengthOf_4 at h
  refine iq_G_go (k := 1) (σ' := (1, [some (.ref 4), some (.int x1)], [.int x1], (iq_sh l, I, J, X))) (fun _ => rfl) ?_
  rcases iq_ite h with ⟨hc_, h⟩ | ⟨hc_, h⟩
  · refine iq_G_pos (c := x1 < 0) (σ1 := (12, [some (.ref 4), some (.int x1)], [], (iq_sh l, I, J, X))) (fun _ => rfl) hc_ ?_
    refine iq_G_go (k := 2) (σ' := (22, [some (.ref 4), some (.int x1)], [.int (0 : Int32)], (iq_sh l, I, J, X))) (fun _ => rfl) ?_
    cases h
    exact iq_G_ret (fun _ => rfl)
  · refine iq_G_neg (c := x1 < 0) (σ1 := (4, [some (.ref 4), some (.int x1)], [], (iq_sh l, I, J, X))) (fun _ => rfl) hc_ ?_
    refine iq_G_go (k := 3) (σ' := (9, [some (.ref 4), some (.int x1)], [.int (I 4 2), .int x1], (iq_sh l, I, J, X))) (fun _ => rfl) ?_
    rcases iq_ite h with ⟨hc_, h⟩ | ⟨hc_, h⟩
    · refine iq_G_pos (c := x1 < (I 4 2)) (σ1 := (16, [some (.ref 4), some (.int x1)], [], (iq_sh l, I, J, X))) (fun _ => rfl) hc_ ?_
      refine iq_G_go (k := 3) (σ' := (21, [some (.ref 4), some (.int x1)], [.int x1, .ref 5], (iq_sh l, I, J, X))) (fun _ => rfl) ?_
      obtain ⟨hc_, h⟩ := iq_itn h
      refine iq_G_pos (c := iq_in x1 14) (σ1 := (22, [some (.ref 4), some (.int x1)], [.int (I 5 (Int32.toNatClampNeg x1))], (iq_sh l, I, J, X))) (fun _ => rfl) hc_ ?_
      cases h
      exact iq_G_ret (fun _ => rfl)
    · refine iq_G_neg (c := x1 < (I 4 2)) (σ1 := (12, [some (.ref 4), some (.int x1)], [], (iq_sh l, I, J, X))) (fun _ => rfl) hc_ ?_
      refine iq_G_go (k := 2) (σ' := (22, [some (.ref 4), some (.int x1)], [.int (0 : Int32)], (iq_sh l, I, J, X))) (fun _ => rfl) ?_
      cases h
      exact iq_G_ret (fun _ => rfl)
set_option maxRecDepth 100000 in
theorem zH_fillValues_69_16_130_ok (l : Nat)  (s1 : Int32) (s2 : Int32) (I : iq_I) (J : iq_J) (X : iq_X)  {q : iq_I} (h : zH_fillValues_69_16_130 s1 s2 I = some q)  : iq_Gg 1 23 (130, [none, none, none, none, none, none, none, none], [.int s2, .int s1, .ref 70], (iq_sh l, I, J, X)) (.inl none, (iq_sh l, q, J, X)) := by
  unfold zH_fillValues_69_16_130 at h
  obtain ⟨hc_, h⟩ := iq_itn h
  refine iq_G_pos (c := iq_in s1 7) (σ1 := (131, [none, none, none, none, none, none, none, none], [], (iq_sh l, (iq_upI I 70 (Int32.toNatClampNeg s1) s2), J, X))) (fun _ => rfl) hc_ ?_
  obtain ⟨I12, eI12, h⟩ := ir_letG h
  rw [← eI12]
  clear eI12
  cases h
  exact iq_G_ret (fun _ => rfl)
set_option maxRecDepth 100000 in
theorem zH_fillValues_69_16_49_ok (l : Nat)  (x2 : Int32) (x3 : Int32) (x4 : Int32) (x5 : Int32) (s0 : Int32) (I : iq_I) (J : iq_J) (X : iq_X)  {q : iq_I} (h : zH_fillValues_69_16_49 x2 x3 x4 x5 s0 I = some q)  : iq_Gg 1 23 (49, [some (.ref 69), some (.ref 16), some (.int x2), some (.int x3), some (.int x4), some (.int x5), none, none], [.int s0], (iq_sh l, I, J, X)) (.inl none, (iq_sh l, q, J, X)) := by
  unfold zH_fillValues_69_16_49 at h
  refine iq_G_go (k := 7) (σ' := (61, [some (.ref 69), some (.ref 16), some (.int x2), some (.int x3), some (.int x4), some (.int x5), none, some (.int s0)], [.int x3, .ref 4, .int (0 : Int32), .ref 70], (iq_sh l, I, J, X))) (fun _ => rfl) ?_
  obtain ⟨q3, hq3, h⟩ := iq_bnd h
  refine iq_G_call (σ' := (64, [some (.ref 69), some (.ref 16), some (.int x2), some (.int x3), some (.int x4), some (.int x5), none, some (.int s0)], [.int q3, .int (0 : Int32), .ref 70], (iq_sh l, I, J, X))) (fun _ => rfl) (zU_kindOf_ok l x3 I J X hq3) rfl rfl ?_
  refine iq_G_go (k := 1) (σ' := (65, [some (.ref 69), some (.ref 16), some (.int x2), some (.int x3), some (.int x4), some (.int x5), none, some (.int s0)], [], (iq_sh l, (iq_upI I 70 0 q3), J, X))) (fun _ => rfl) ?_
  obtain ⟨I4, eI4, h⟩ := ir_letG h
  rw [← eI4]
  clear eI4
  refine iq_G_go (k := 6) (σ' := (75, [some (.ref 69), some (.ref 16), some (.int x2), some (.int x3), some (.int x4), some (.int x5), none, some (.int s0)], [.int x3, .ref 4, .int (1 : Int32), .ref 70], (iq_sh l, I4, J, X))) (fun _ => rfl) ?_
  obtain ⟨q5, hq5, h⟩ := iq_bnd h
  refine iq_G_call (σ' := (78, [some (.ref 69), some (.ref 16), some (.int x2), some (.int x3), some (.int x4), some (.int x5), none, some (.int s0)], [.int q5, .int (1 : Int32), .ref 70], (iq_sh l, I4, J, X))) (fun _ => rfl) (zU_lengthOf_4_ok l x3 I4 J X hq5) rfl rfl ?_
  refine iq_G_go (k := 1) (σ' := (79, [some (.ref 69), some (.ref 16), some (.int x2), some (.int x3), some (.int x4), some (.int x5), none, some (.int s0)], [], (iq_sh l, (iq_upI I4 70 1 q5), J, X))) (fun _ => rfl) ?_
  obtain ⟨I6, eI6, h⟩ := ir_letG h
  rw [← eI6]
  clear eI6
  refine iq_G_go (k := 4) (σ' := (85, [some (.ref 69), some (.ref 16), some (.int x2), some (.int x3), some (.int x4), some (.int x5), none, some (.int s0)], [.int x3, .int (2 : Int32), .ref 70], (iq_sh l, I6, J, X))) (fun _ => rfl) ?_
  refine iq_G_go (k := 1) (σ' := (86, [some (.ref 69), some (.ref 16), some (.int x2), some (.int x3), some (.int x4), some (.int x5), none, some (.int s0)], [], (iq_sh l, (iq_upI I6 70 2 x3), J, X))) (fun _ => rfl) ?_
  obtain ⟨I7, eI7, h⟩ := ir_letG h
  rw [← eI7]
  clear eI7
  refine iq_G_go (k := 4) (σ' := (93, [some (.ref 69), some (.ref 16), some (.int x2), some (.int x3), some (.int x4), some (.int x5), none, some (.int s0)], [.int x4, .int (3 : Int32), .ref 70], (iq_sh l, I7, J, X))) (fun _ => rfl) ?_
  refine iq_G_go (k := 1) (σ' := (94, [some (.ref 69), some (.ref 16), some (.int x2), some (.int x3), some (.int x4), some (.int x5), none, some (.int s0)], [], (iq_sh l, (iq_upI I7 70 3 x4), J, X))) (fun _ => rfl) ?_
  obtain ⟨I8, eI8, h⟩ := ir_letG h
  rw [← eI8]
  clear eI8
  refine iq_G_go (k := 4) (σ' := (101, [some (.ref 69), some (.ref 16), some (.int x2), some (.int x3), some (.int x4), some (.int x5), none, some (.int s0)], [.int x5, .int (4 : Int32), .ref 70], (iq_sh l, I8, J, X))) (fun _ => rfl) ?_
  refine iq_G_go (k := 1) (σ' := (102, [some (.ref 69), some (.ref 16), some (.int x2), some (.int x3), some (.int x4), some (.int x5), none, some (.int s0)], [], (iq_sh l, (iq_upI I8 70 4 x5), J, X))) (fun _ => rfl) ?_
  obtain ⟨I9, eI9, h⟩ := ir_letG h
  rw [← eI9]
  clear eI9
  refine iq_G_go (k := 6) (σ' := (110, [some (.ref 69), some (.ref 16), some (.int x2), some (.int x3), some (.int x4), some (.int x5), none, some (.int s0)], [.int x3, .int x2, .ref 16, .int (5 : Int32), .ref 70], (iq_sh l, I9, J, X))) (fun _ => rfl) ?_
  obtain ⟨q10, hq10, h⟩ := iq_bnd h
  refine iq_G_call (σ' := (113, [some (.ref 69), some (.ref 16), some (.int x2), some (.int x3), some (.int x4), some (.int x5), none, some (.int s0)], [.int q10, .int (5 : Int32), .ref 70], (iq_sh l, I9, J, X))) (fun _ => rfl) (zG_timesIn_16_ok l x2 x3 I9 J X hq10) rfl rfl ?_
  refine iq_G_go (k := 1) (σ' := (114, [some (.ref 69), some (.ref 16), some (.int x2), some (.int x3), some (.int x4), some (.int x5), none, some (.int s0)], [], (iq_sh l, (iq_upI I9 70 5 q10), J, X))) (fun _ => rfl) ?_
  obtain ⟨I11, eI11, h⟩ := ir_letG h
  rw [← eI11]
  clear eI11
  refine iq_G_go (k := 4) (σ' := (122, [some (.ref 69), some (.ref 16), some (.int x2), some (.int x3), some (.int x4), some (.int x5), none, some (.int s0)], [.int s0, .int (6 : Int32), .ref 70], (iq_sh l, I11, J, X))) (fun _ => rfl) ?_
  rcases iq_ite h with ⟨hc_, h⟩ | ⟨hc_, h⟩
  · refine iq_G_pos (c := s0 = 0) (σ1 := (129, [some (.ref 69), some (.ref 16), some (.int x2), some (.int x3), some (.int x4), some (.int x5), none, some (.int s0)], [.int (6 : Int32), .ref 70], (iq_sh l, I11, J, X))) (fun _ => rfl) hc_ ?_
    refine iq_G_go (k := 1) (σ' := (130, [some (.ref 69), some (.ref 16), some (.int x2), some (.int x3), some (.int x4), some (.int x5), none, some (.int s0)], [.int (0 : Int32), .int (6 : Int32), .ref 70], (iq_sh l, I11, J, X))) (fun _ => rfl) ?_
    exact iq_G_fg (L := [none, none, none, none, none, none, none, none]) trivial (zH_fillValues_69_16_130_ok l (6 : Int32) (0 : Int32) I11 J X  h )
  · refine iq_G_neg (c := s0 = 0) (σ1 := (125, [some (.ref 69), some (.ref 16), some (.int x2), some (.int x3), some (.int x4), some (.int x5), none, some (.int s0)], [.int (6 : Int32), .ref 70], (iq_sh l, I11, J, X))) (fun _ => rfl) hc_ ?_
    refine iq_G_go (k := 2) (σ' := (130, [some (.ref 69), some (.ref 16), some (.int x2), some (.int x3), some (.int x4), some (.int x5), none, some (.int s0)], [.int (1 : Int32), .int (6 : Int32), .ref 70], (iq_sh l, I11, J, X))) (fun _ => rfl) ?_
    exact iq_G_fg (L := [none, none, none, none, none, none, none, none]) trivial (zH_fillValues_69_16_130_ok l (6 : Int32) (1 : Int32) I11 J X  h )
set_option maxRecDepth 100000 in
theorem zH_fillValues_69_16_48_ok (l : Nat)  (x2 : Int32) (x3 : Int32) (x4 : Int32) (x5 : Int32) (I : iq_I) (J : iq_J) (X : iq_X)  {q : iq_I} (h : zH_fillValues_69_16_48 x2 x3 x4 x5 I = some q)  : iq_Gg 1 23 (48, [some (.ref 69), some (.ref 16), some (.int x2), some (.int x3), some (.int x4), some (.int x5), none, none], [], (iq_sh l, I, J, X)) (.inl none, (iq_sh l, q, J, X)) := by
  unfold zH_fillValues_69_16_48 at h
  refine iq_G_go (k := 1) (σ' := (49, [some (.ref 69), some (.ref 16), some (.int x2), some (.int x3), some (.int x4), some (.int x5), none, none], [.int (0 : Int32)], (iq_sh l, I, J, X))) (fun _ => rfl) ?_
  exact iq_G_fg (L := [some (.ref 69), some (.ref 16), some (.int x2), some (.int x3), some (.int x4), some (.int x5), none, none]) (And.intro rfl (And.intro rfl (And.intro rfl (And.intro rfl (And.intro rfl (And.intro rfl trivial)))))) (zH_fillValues_69_16_49_ok l x2 x3 x4 x5 (0 : Int32) I J X  h )
set_option maxRecDepth 100000 in
theorem zH_fillValues_69_16_ok (l : Nat)  (x2 : Int32) (x3 : Int32) (x4 : Int32) (I : iq_I) (J : iq_J) (X : iq_X) {q : iq_I} (h : zH_fillValues_69_16 x2 x3 x4 I = some q) : iq_Cc 2 23 [.ref 69, .ref 16, .int x2, .int x3, .int x4] (iq_sh l, I, J, X) (.inl none, (iq_sh l, q, J, X)) := by
  refine iq_Cc_of (L := [some (.ref 69), some (.ref 16), some (.int x2), some (.int x3), some (.int x4), none, none, none]) rfl rfl ?_
  unfold zH_fillValues_69_16 at h
  refine iq_G_go (k := 2) (σ' := (2, [some (.ref 69), some (.ref 16), some (.int x2), some (.int x3), some (.int x4), none, none, none], [.int x2, .ref 16], (iq_sh l, I, J, X))) (fun _ => rfl) ?_
  obtain ⟨q1, hq1, h⟩ := iq_bnd h
  refine iq_G_call (σ' := (5, [some (.ref 69), some (.ref 16), some (.int x2), some (.int x3), some (.int x4), none, none, none], [.int q1], (iq_sh l, I, J, X))) (fun _ => rfl) (zG_lengthOf_16_ok l x2 I J X hq1) rfl rfl ?_
  refine iq_G_go (k := 6) (σ' := (13, [some (.ref 69), some (.ref 16), some (.int x2), some (.int x3), some (.int x4), some (.int q1), none, none], [.int (q1 - (1 : Int32)), .int x2, .ref 16], (iq_sh l, I, J, X))) (fun _ => rfl) ?_
  obtain ⟨q2, hq2, h⟩ := iq_bnd h
  refine iq_G_call (σ' := (16, [some (.ref 69), some (.ref 16), some (.int x2), some (.int x3), some (.int x4), some (.int q1), none, none], [.int q2], (iq_sh l, I, J, X))) (fun _ => rfl) (zG_wordAt_16_ok l x2 (q1 - (1 : Int32)) I J X hq2) rfl rfl ?_
  refine iq_G_go (k := 3) (σ' := (21, [some (.ref 69), some (.ref 16), some (.int x2), some (.int x3), some (.int x4), some (.int q1), some (.int q2), none], [.int (-1 : Int32), .int q2], (iq_sh l, I, J, X))) (fun _ => rfl) ?_
  rcases iq_ite h with ⟨hc_, h⟩ | ⟨hc_, h⟩
  · refine iq_G_pos (c := q2 = (-1 : Int32)) (σ1 := (48, [some (.ref 69), some (.ref 16), some (.int x2), some (.int x3), some (.int x4), some (.int q1), some (.int q2), none], [], (iq_sh l, I, J, X))) (fun _ => rfl) hc_ ?_
    exact iq_G_fg (L := [some (.ref 69), some (.ref 16), some (.int x2), some (.int x3), some (.int x4), some (.int q1), none, none]) (And.intro rfl (And.intro rfl (And.intro rfl (And.intro rfl (And.intro rfl (And.intro rfl trivial)))))) (zH_fillValues_69_16_48_ok l x2 x3 x4 q1 I J X  h )
  · refine iq_G_neg (c := q2 = (-1 : Int32)) (σ1 := (24, [some (.ref 69), some (.ref 16), some (.int x2), some (.int x3), some (.int x4), some (.int q1), some (.int q2), none], [], (iq_sh l, I, J, X))) (fun _ => rfl) hc_ ?_
    refine iq_G_go (k := 3) (σ' := (30, [some (.ref 69), some (.ref 16), some (.int x2), some (.int x3), some (.int x4), some (.int q1), some (.int q2), none], [.int q2, .ref 4], (iq_sh l, I, J, X))) (fun _ => rfl) ?_
    obtain ⟨q13, hq13, h⟩ := iq_bnd h
    refine iq_G_call (σ' := (33, [some (.ref 69), some (.ref 16), some (.int x2), some (.int x3), some (.int x4), some (.int q1), some (.int q2), none], [.int q13], (iq_sh l, I, J, X))) (fun _ => rfl) (zU_lastLetter_ok l q2 I J X hq13) rfl rfl ?_
    refine iq_G_go (k := 3) (σ' := (38, [some (.ref 69), some (.ref 16), some (.int x2), some (.int x3), some (.int x4), some (.int q1), some (.int q2), none], [.int x3, .ref 4, .int q13], (iq_sh l, I, J, X))) (fun _ => rfl) ?_
    obtain ⟨q14, hq14, h⟩ := iq_bnd h
    refine iq_G_call (σ' := (41, [some (.ref 69), some (.ref 16), some (.int x2), some (.int x3), some (.int x4), some (.int q1), some (.int q2), none], [.int q14, .int q13], (iq_sh l, I, J, X))) (fun _ => rfl) (zU_lastLetter_ok l x3 I J X hq14) rfl rfl ?_
    rcases iq_ite h with ⟨hc_, h⟩ | ⟨hc_, h⟩
    · refine iq_G_pos (c := ¬ q13 = q14) (σ1 := (48, [some (.ref 69), some (.ref 16), some (.int x2), some (.int x3), some (.int x4), some (.int q1), some (.int q2), none], [], (iq_sh l, I, J, X))) (fun _ => rfl) hc_ ?_
      exact iq_G_fg (L := [some (.ref 69), some (.ref 16), some (.int x2), some (.int x3), some (.int x4), some (.int q1), none, none]) (And.intro rfl (And.intro rfl (And.intro rfl (And.intro rfl (And.intro rfl (And.intro rfl trivial)))))) (zH_fillValues_69_16_48_ok l x2 x3 x4 q1 I J X  h )
    · refine iq_G_neg (c := ¬ q13 = q14) (σ1 := (44, [some (.ref 69), some (.ref 16), some (.int x2), some (.int x3), some (.int x4), some (.int q1), some (.int q2), none], [], (iq_sh l, I, J, X))) (fun _ => rfl) hc_ ?_
      refine iq_G_go (k := 2) (σ' := (49, [some (.ref 69), some (.ref 16), some (.int x2), some (.int x3), some (.int x4), some (.int q1), some (.int q2), none], [.int (1 : Int32)], (iq_sh l, I, J, X))) (fun _ => rfl) ?_
      exact iq_G_fg (L := [some (.ref 69), some (.ref 16), some (.int x2), some (.int x3), some (.int x4), some (.int q1), none, none]) (And.intro rfl (And.intro rfl (And.intro rfl (And.intro rfl (And.intro rfl (And.intro rfl trivial)))))) (zH_fillValues_69_16_49_ok l x2 x3 x4 q1 (1 : Int32) I J X  h )
set_option maxRecDepth 100000 in
theorem zE_valueOf_ok (l : Nat)  (x0 : Int32) (I : iq_I) (J : iq_J) (X : iq_X) {q : Int32} (h : zE_valueOf x0 I = some q) : iq_Cc 1 135 [.int x0, .ref 70] (iq_sh l, I, J, X) (.inl (some (.int q)), (iq_sh l, I, J, X)) := by
  refine iq_Cc_of (L := [some (.int x0), some (.ref 70), none]) rfl rfl ?_
  unfold zE_valueOf at h
  refine iq_G_go (k := 5) (σ' := (5, [some (.int x0), some (.ref 70), some (.int ((-1 : Int32) - x0))], [.int ((-1 : Int32) - x0)], (iq_sh l, I, J, X))) (fun _ => rfl) ?_
  rcases iq_ite h with ⟨hc_, h⟩ | ⟨hc_, h⟩
  · have st_ : ∀ (z_0 : Int32) (r_ : iq_R × iq_M), z_0 < 0 → iq_Gg 0 135 (20, [some (.int x0), some (.ref 70), some (.int z_0)], [], (iq_sh l, I, J, X)) r_ → iq_Gg 0 135 (5, [some (.int x0), some (.ref 70), some (.int z_0)], [.int z_0], (iq_sh l, I, J, X)) r_ := fun z_0 r_ hc_ hg_ => iq_G_pos (c := z_0 < 0) (σ1 := (20, [some (.int x0), some (.ref 70), some (.int z_0)], [], (iq_sh l, I, J, X))) (fun _ => rfl) hc_ hg_
    refine st_ ((-1 : Int32) - x0) _ hc_ ?_
    clear st_
    refine iq_G_go (k := 1) (σ' := (21, [some (.int x0), some (.ref 70), some (.int ((-1 : Int32) - x0))], [.int (0 : Int32)], (iq_sh l, I, J, X))) (fun _ => rfl) ?_
    cases h
    exact iq_G_ret (fun _ => rfl)
  · have st_ : ∀ (z_0 : Int32) (r_ : iq_R × iq_M), ¬ (z_0 < 0) → iq_Gg 0 135 (8, [some (.int x0), some (.ref 70), some (.int z_0)], [], (iq_sh l, I, J, X)) r_ → iq_Gg 0 135 (5, [some (.int x0), some (.ref 70), some (.int z_0)], [.int z_0], (iq_sh l, I, J, X)) r_ := fun z_0 r_ hc_ hg_ => iq_G_neg (c := z_0 < 0) (σ1 := (8, [some (.int x0), some (.ref 70), some (.int z_0)], [], (iq_sh l, I, J, X))) (fun _ => rfl) hc_ hg_
    refine st_ ((-1 : Int32) - x0) _ hc_ ?_
    clear st_
    refine iq_G_go (k := 3) (σ' := (11, [some (.int x0), some (.ref 70), some (.int ((-1 : Int32) - x0))], [.int (7 : Int32), .int ((-1 : Int32) - x0)], (iq_sh l, I, J, X))) (fun _ => rfl) ?_
    rcases iq_ite h with ⟨hc_, h⟩ | ⟨hc_, h⟩
    · have st_ : ∀ (z_0 : Int32) (r_ : iq_R × iq_M), (7 : Int32) ≤ z_0 → iq_Gg 0 135 (20, [some (.int x0), some (.ref 70), some (.int z_0)], [], (iq_sh l, I, J, X)) r_ → iq_Gg 0 135 (11, [some (.int x0), some (.ref 70), some (.int z_0)], [.int (7 : Int32), .int z_0], (iq_sh l, I, J, X)) r_ := fun z_0 r_ hc_ hg_ => iq_G_pos (c := (7 : Int32) ≤ z_0) (σ1 := (20, [some (.int x0), some (.ref 70), some (.int z_0)], [], (iq_sh l, I, J, X))) (fun _ => rfl) hc_ hg_
      refine st_ ((-1 : Int32) - x0) _ hc_ ?_
      clear st_
      refine iq_G_go (k := 1) (σ' := (21, [some (.int x0), some (.ref 70), some (.int ((-1 : Int32) - x0))], [.int (0 : Int32)], (iq_sh l, I, J, X))) (fun _ => rfl) ?_
      cases h
      exact iq_G_ret (fun _ => rfl)
    · have st_ : ∀ (z_0 : Int32) (r_ : iq_R × iq_M), ¬ ((7 : Int32) ≤ z_0) → iq_Gg 0 135 (14, [some (.int x0), some (.ref 70), some (.int z_0)], [], (iq_sh l, I, J, X)) r_ → iq_Gg 0 135 (11, [some (.int x0), some (.ref 70), some (.int z_0)], [.int (7 : Int32), .int z_0], (iq_sh l, I, J, X)) r_ := fun z_0 r_ hc_ hg_ => iq_G_neg (c := (7 : Int32) ≤ z_0) (σ1 := (14, [some (.int x0), some (.ref 70), some (.int z_0)], [], (iq_sh l, I, J, X))) (fun _ => rfl) hc_ hg_
      refine st_ ((-1 : Int32) - x0) _ hc_ ?_
      clear st_
      refine iq_G_go (k := 2) (σ' := (16, [some (.int x0), some (.ref 70), some (.int ((-1 : Int32) - x0))], [.int ((-1 : Int32) - x0), .ref 70], (iq_sh l, I, J, X))) (fun _ => rfl) ?_
      obtain ⟨hc_, h⟩ := iq_itn h
      have st_ : ∀ (z_0 : Int32) (r_ : iq_R × iq_M), iq_in z_0 7 → iq_Gg 0 135 (17, [some (.int x0), some (.ref 70), some (.int z_0)], [.int (I 70 (Int32.toNatClampNeg z_0))], (iq_sh l, I, J, X)) r_ → iq_Gg 0 135 (16, [some (.int x0), some (.ref 70), some (.int z_0)], [.int z_0, .ref 70], (iq_sh l, I, J, X)) r_ := fun z_0 r_ hc_ hg_ => iq_G_pos (c := iq_in z_0 7) (σ1 := (17, [some (.int x0), some (.ref 70), some (.int z_0)], [.int (I 70 (Int32.toNatClampNeg z_0))], (iq_sh l, I, J, X))) (fun _ => rfl) hc_ hg_
      refine st_ ((-1 : Int32) - x0) _ hc_ ?_
      clear st_
      refine iq_G_go (k := 1) (σ' := (21, [some (.int x0), some (.ref 70), some (.int ((-1 : Int32) - x0))], [.int (I 70 (Int32.toNatClampNeg ((-1 : Int32) - x0)))], (iq_sh l, I, J, X))) (fun _ => rfl) ?_
      cases h
      exact iq_G_ret (fun _ => rfl)
set_option maxRecDepth 100000 in
theorem zE_join_83_ok (l : Nat)  (x1 : Int32) (x2 : Int32) (I : iq_I) (J : iq_J) (X : iq_X)  {q : Int32} (h : zE_join_83 x1 x2 I = some q)  : iq_Gg 0 136 (83, [none, some (.int x1), some (.int x2)], [], (iq_sh l, I, J, X)) (.inl (some (.int q)), (iq_sh l, I, J, X)) := by
  unfold zE_join_83 at h
  refine iq_G_go (k := 2) (σ' := (85, [none, some (.int x1), some (.int x2)], [.int x2, .int x1], (iq_sh l, I, J, X))) (fun _ => rfl) ?_
  rcases iq_ite h with ⟨hc_, h⟩ | ⟨hc_, h⟩
  · refine iq_G_pos (c := ¬ x1 = x2) (σ1 := (92, [none, some (.int x1), some (.int x2)], [], (iq_sh l, I, J, X))) (fun _ => rfl) hc_ ?_
    refine iq_G_go (k := 1) (σ' := (93, [none, some (.int x1), some (.int x2)], [.int (0 : Int32)], (iq_sh l, I, J, X))) (fun _ => rfl) ?_
    cases h
    exact iq_G_ret (fun _ => rfl)
  · refine iq_G_neg (c := ¬ x1 = x2) (σ1 := (88, [none, some (.int x1), some (.int x2)], [], (iq_sh l, I, J, X))) (fun _ => rfl) hc_ ?_
    refine iq_G_go (k := 2) (σ' := (93, [none, some (.int x1), some (.int x2)], [.int (1 : Int32)], (iq_sh l, I, J, X))) (fun _ => rfl) ?_
    cases h
    exact iq_G_ret (fun _ => rfl)
set_option maxRecDepth 100000 in
theorem zE_join_72_ok (l : Nat)  (x1 : Int32) (x2 : Int32) (I : iq_I) (J : iq_J) (X : iq_X)  {q : Int32} (h : zE_join_72 x1 x2 I = some q)  : iq_Gg 0 136 (72, [none, some (.int x1), some (.int x2)], [], (iq_sh l, I, J, X)) (.inl (some (.int q)), (iq_sh l, I, J, X)) := by
  unfold zE_join_72 at h
  refine iq_G_go (k := 2) (σ' := (74, [none, some (.int x1), some (.int x2)], [.int x2, .int x1], (iq_sh l, I, J, X))) (fun _ => rfl) ?_
  rcases iq_ite h with ⟨hc_, h⟩ | ⟨hc_, h⟩
  · refine iq_G_pos (c := x2 ≤ x1) (σ1 := (81, [none, some (.int x1), some (.int x2)], [], (iq_sh l, I, J, X))) (fun _ => rfl) hc_ ?_
    refine iq_G_go (k := 1) (σ' := (82, [none, some (.int x1), some (.int x2)], [.int (0 : Int32)], (iq_sh l, I, J, X))) (fun _ => rfl) ?_
    cases h
    exact iq_G_ret (fun _ => rfl)
  · refine iq_G_neg (c := x2 ≤ x1) (σ1 := (77, [none, some (.int x1), some (.int x2)], [], (iq_sh l, I, J, X))) (fun _ => rfl) hc_ ?_
    refine iq_G_go (k := 2) (σ' := (82, [none, some (.int x1), some (.int x2)], [.int (1 : Int32)], (iq_sh l, I, J, X))) (fun _ => rfl) ?_
    cases h
    exact iq_G_ret (fun _ => rfl)
set_option maxRecDepth 100000 in
theorem zE_join_58_ok (l : Nat)  (x1 : Int32) (x2 : Int32) (I : iq_I) (J : iq_J) (X : iq_X)  {q : Int32} (h : zE_join_58 x1 x2 I = some q)  : iq_Gg 0 136 (58, [none, some (.int x1), some (.int x2)], [], (iq_sh l, I, J, X)) (.inl (some (.int q)), (iq_sh l, I, J, X)) := by
  unfold zE_join_58 at h
  refine iq_G_go (k := 1) (σ' := (59, [none, some (.int x1), some (.int x2)], [.int x1], (iq_sh l, I, J, X))) (fun _ => rfl) ?_
  rcases iq_ite h with ⟨hc_, h⟩ | ⟨hc_, h⟩
  · refine iq_G_pos (c := x1 = 0) (σ1 := (70, [none, some (.int x1), some (.int x2)], [], (iq_sh l, I, J, X))) (fun _ => rfl) hc_ ?_
    refine iq_G_go (k := 1) (σ' := (71, [none, some (.int x1), some (.int x2)], [.int (0 : Int32)], (iq_sh l, I, J, X))) (fun _ => rfl) ?_
    cases h
    exact iq_G_ret (fun _ => rfl)
  · refine iq_G_neg (c := x1 = 0) (σ1 := (62, [none, some (.int x1), some (.int x2)], [], (iq_sh l, I, J, X))) (fun _ => rfl) hc_ ?_
    refine iq_G_go (k := 1) (σ' := (63, [none, some (.int x1), some (.int x2)], [.int x2], (iq_sh l, I, J, X))) (fun _ => rfl) ?_
    rcases iq_ite h with ⟨hc_, h⟩ | ⟨hc_, h⟩
    · refine iq_G_pos (c := x2 = 0) (σ1 := (70, [none, some (.int x1), some (.int x2)], [], (iq_sh l, I, J, X))) (fun _ => rfl) hc_ ?_
      refine iq_G_go (k := 1) (σ' := (71, [none, some (.int x1), some (.int x2)], [.int (0 : Int32)], (iq_sh l, I, J, X))) (fun _ => rfl) ?_
      cases h
      exact iq_G_ret (fun _ => rfl)
    · refine iq_G_neg (c := x2 = 0) (σ1 := (66, [none, some (.int x1), some (.int x2)], [], (iq_sh l, I, J, X))) (fun _ => rfl) hc_ ?_
      refine iq_G_go (k := 2) (σ' := (71, [none, some (.int x1), some (.int x2)], [.int (1 : Int32)], (iq_sh l, I, J, X))) (fun _ => rfl) ?_
      cases h
      exact iq_G_ret (fun _ => rfl)
set_option maxRecDepth 100000 in
theorem zE_join_44_ok (l : Nat)  (x1 : Int32) (x2 : Int32) (I : iq_I) (J : iq_J) (X : iq_X)  {q : Int32} (h : zE_join_44 x1 x2 I = some q)  : iq_Gg 0 136 (44, [none, some (.int x1), some (.int x2)], [], (iq_sh l, I, J, X)) (.inl (some (.int q)), (iq_sh l, I, J, X)) := by
  unfold zE_join_44 at h
  refine iq_G_go (k := 1) (σ' := (45, [none, some (.int x1), some (.int x2)], [.int x1], (iq_sh l, I, J, X))) (fun _ => rfl) ?_
  rcases iq_ite h with ⟨hc_, h⟩ | ⟨hc_, h⟩
  · refine iq_G_pos (c := ¬ x1 = 0) (σ1 := (52, [none, some (.int x1), some (.int x2)], [], (iq_sh l, I, J, X))) (fun _ => rfl) hc_ ?_
    refine iq_G_go (k := 2) (σ' := (57, [none, some (.int x1), some (.int x2)], [.int (1 : Int32)], (iq_sh l, I, J, X))) (fun _ => rfl) ?_
    cases h
    exact iq_G_ret (fun _ => rfl)
  · refine iq_G_neg (c := ¬ x1 = 0) (σ1 := (48, [none, some (.int x1), some (.int x2)], [], (iq_sh l, I, J, X))) (fun _ => rfl) hc_ ?_
    refine iq_G_go (k := 1) (σ' := (49, [none, some (.int x1), some (.int x2)], [.int x2], (iq_sh l, I, J, X))) (fun _ => rfl) ?_
    rcases iq_ite h with ⟨hc_, h⟩ | ⟨hc_, h⟩
    · refine iq_G_pos (c := x2 = 0) (σ1 := (56, [none, some (.int x1), some (.int x2)], [], (iq_sh l, I, J, X))) (fun _ => rfl) hc_ ?_
      refine iq_G_go (k := 1) (σ' := (57, [none, some (.int x1), some (.int x2)], [.int (0 : Int32)], (iq_sh l, I, J, X))) (fun _ => rfl) ?_
      cases h
      exact iq_G_ret (fun _ => rfl)
    · refine iq_G_neg (c := x2 = 0) (σ1 := (52, [none, some (.int x1), some (.int x2)], [], (iq_sh l, I, J, X))) (fun _ => rfl) hc_ ?_
      refine iq_G_go (k := 2) (σ' := (57, [none, some (.int x1), some (.int x2)], [.int (1 : Int32)], (iq_sh l, I, J, X))) (fun _ => rfl) ?_
      cases h
      exact iq_G_ret (fun _ => rfl)
set_option maxRecDepth 100000 in
theorem zE_join_106_ok (l : Nat)  (x1 : Int32) (x2 : Int32) (I : iq_I) (J : iq_J) (X : iq_X)  {q : Int32} (h : zE_join_106 x1 x2 I = some q)  : iq_Gg 0 136 (106, [none, some (.int x1), some (.int x2)], [], (iq_sh l, I, J, X)) (.inl (some (.int q)), (iq_sh l, I, J, X)) := by
  unfold zE_join_106 at h
  refine iq_G_go (k := 1) (σ' := (107, [none, some (.int x1), some (.int x2)], [.int x2], (iq_sh l, I, J, X))) (fun _ => rfl) ?_
  rcases iq_ite h with ⟨hc_, h⟩ | ⟨hc_, h⟩
  · refine iq_G_pos (c := ¬ x2 = 0) (σ1 := (114, [none, some (.int x1), some (.int x2)], [], (iq_sh l, I, J, X))) (fun _ => rfl) hc_ ?_
    refine iq_G_go (k := 2) (σ' := (116, [none, some (.int x1), some (.int x2)], [.int x2, .int x1], (iq_sh l, I, J, X))) (fun _ => rfl) ?_
    obtain ⟨hc_, h⟩ := ir_nti h
    refine iq_G_neg (c := x2 = 0) (σ1 := (117, [none, some (.int x1), some (.int x2)], [.int (x1 / x2)], (iq_sh l, I, J, X))) (fun _ => rfl) hc_ ?_
    cases h
    exact iq_G_ret (fun _ => rfl)
  · refine iq_G_neg (c := ¬ x2 = 0) (σ1 := (110, [none, some (.int x1), some (.int x2)], [], (iq_sh l, I, J, X))) (fun _ => rfl) hc_ ?_
    refine iq_G_go (k := 2) (σ' := (117, [none, some (.int x1), some (.int x2)], [.int (0 : Int32)], (iq_sh l, I, J, X))) (fun _ => rfl) ?_
    cases h
    exact iq_G_ret (fun _ => rfl)
set_option maxRecDepth 100000 in
theorem zE_join_ok (l : Nat)  (x0 : Int32) (x1 : Int32) (x2 : Int32) (I : iq_I) (J : iq_J) (X : iq_X) {q : Int32} (h : zE_join x0 x1 x2 I = some q) : iq_Cc 1 136 [.int x0, .int x1, .int x2] (iq_sh l, I, J, X) (.inl (some (.int q)), (iq_sh l, I, J, X)) := by
  refine iq_Cc_of (L := [some (.int x0), some (.int x1), some (.int x2)]) rfl rfl ?_
  unfold zE_join at h
  refine iq_G_go (k := 1) (σ' := (1, [some (.int x0), some (.int x1), some (.int x2)], [.int x0], (iq_sh l, I, J, X))) (fun _ => rfl) ?_
  rcases iq_ite h with ⟨e0, h⟩ | ⟨n0, h⟩
  · refine iq_G_sw (σ' := (102, [some (.int x0), some (.int x1), some (.int x2)], [], (iq_sh l, I, J, X))) (fun _ => rfl) (by rw [e0]; rfl) ?_
    refine iq_G_go (k := 3) (σ' := (105, [some (.int x0), some (.int x1), some (.int x2)], [.int (x1 * x2)], (iq_sh l, I, J, X))) (fun _ => rfl) ?_
    cases h
    exact iq_G_ret (fun _ => rfl)
  rcases iq_ite h with ⟨e1, h⟩ | ⟨n1, h⟩
  · refine iq_G_sw (σ' := (98, [some (.int x0), some (.int x1), some (.int x2)], [], (iq_sh l, I, J, X))) (fun _ => rfl) (by rw [e1]; rfl) ?_
    refine iq_G_go (k := 3) (σ' := (101, [some (.int x0), some (.int x1), some (.int x2)], [.int (x1 - x2)], (iq_sh l, I, J, X))) (fun _ => rfl) ?_
    cases h
    exact iq_G_ret (fun _ => rfl)
  rcases iq_ite h with ⟨e2, h⟩ | ⟨n2, h⟩
  · refine iq_G_sw (σ' := (94, [some (.int x0), some (.int x1), some (.int x2)], [], (iq_sh l, I, J, X))) (fun _ => rfl) (by rw [e2]; rfl) ?_
    refine iq_G_go (k := 3) (σ' := (97, [some (.int x0), some (.int x1), some (.int x2)], [.int (x1 + x2)], (iq_sh l, I, J, X))) (fun _ => rfl) ?_
    cases h
    exact iq_G_ret (fun _ => rfl)
  rcases iq_ite h with ⟨e3, h⟩ | ⟨n3, h⟩
  · refine iq_G_sw (σ' := (83, [some (.int x0), some (.int x1), some (.int x2)], [], (iq_sh l, I, J, X))) (fun _ => rfl) (by rw [e3]; rfl) ?_
    exact iq_G_fg (L := [none, some (.int x1), some (.int x2)]) (And.intro rfl (And.intro rfl trivial)) (zE_join_83_ok l x1 x2 I J X  h )
  rcases iq_ite h with ⟨e4, h⟩ | ⟨n4, h⟩
  · refine iq_G_sw (σ' := (72, [some (.int x0), some (.int x1), some (.int x2)], [], (iq_sh l, I, J, X))) (fun _ => rfl) (by rw [e4]; rfl) ?_
    exact iq_G_fg (L := [none, some (.int x1), some (.int x2)]) (And.intro rfl (And.intro rfl trivial)) (zE_join_72_ok l x1 x2 I J X  h )
  rcases iq_ite h with ⟨e5, h⟩ | ⟨n5, h⟩
  · refine iq_G_sw (σ' := (58, [some (.int x0), some (.int x1), some (.int x2)], [], (iq_sh l, I, J, X))) (fun _ => rfl) (by rw [e5]; rfl) ?_
    exact iq_G_fg (L := [none, some (.int x1), some (.int x2)]) (And.intro rfl (And.intro rfl trivial)) (zE_join_58_ok l x1 x2 I J X  h )
  rcases iq_ite h with ⟨e6, h⟩ | ⟨n6, h⟩
  · refine iq_G_sw (σ' := (44, [some (.int x0), some (.int x1), some (.int x2)], [], (iq_sh l, I, J, X))) (fun _ => rfl) (by rw [e6]; rfl) ?_
    exact iq_G_fg (L := [none, some (.int x1), some (.int x2)]) (And.intro rfl (And.intro rfl trivial)) (zE_join_44_ok l x1 x2 I J X  h )
  refine iq_G_sw (σ' := (106, [some (.int x0), some (.int x1), some (.int x2)], [], (iq_sh l, I, J, X))) (fun _ => rfl) ((Eq.trans (ir_swn n0 rfl) (Eq.trans (ir_swn n1 rfl) (Eq.trans (ir_swn n2 rfl) (Eq.trans (ir_swn n3 rfl) (Eq.trans (ir_swn n4 rfl) (Eq.trans (ir_swn n5 rfl) (Eq.trans (ir_swn n6 rfl) rfl)))))))) ?_
  exact iq_G_fg (L := [none, some (.int x1), some (.int x2)]) (And.intro rfl (And.intro rfl trivial)) (zE_join_106_ok l x1 x2 I J X  h )

