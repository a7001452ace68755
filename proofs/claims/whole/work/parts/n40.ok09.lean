/-! ===== the abstract machine does the same (printed by wip/whole/emitall.py, split.py) ===== -/
set_option maxRecDepth 100000 in
theorem zP_wordFor_l29_bok (l : Nat)  (x3 : Int32) (x4 : Int32) (I : iq_I) (J : iq_J) (X : iq_X) (x5 : Int32) (x6 : Int32) (x7 : Int32)  {q : (Int32 × Int32 × Int32) ⊕ (Int32 × Int32)} (h : zP_wordFor_l29_b x3 x4 I x5 x6 x7 = some q) (r : iq_R × iq_M) (hc : ∀ v, q = .inl v → iq_Gg 3 76 (29, [some (.ref 63), none, none, some (.int x3), some (.int x4), some (.int v.1), some (.int v.2.1), some (.int v.2.2), none], [], (iq_sh l, I, J, X)) r) (hx : ∀ w, q = .inr w → iq_Gg 3 76 (97, [some (.ref 63), none, none, some (.int x3), some (.int x4), some (.int w.1), some (.int w.2), none, none], [], (iq_sh l, I, J, X)) r) : iq_Gg 3 76 (29, [some (.ref 63), none, none, some (.int x3), some (.int x4), some (.int x5), some (.int x6), some (.int x7), none], [], (iq_sh l, I, J, X)) r := by
  unfold zP_wordFor_l29_b at h
  refine iq_G_go (k := 2) (σ' := (32, [some (.ref 63), none, none, some (.int x3), some (.int x4), some (.int x5), some (.int x6), some (.int x7), none], [.int x3, .int x7], (iq_sh l, I, J, X))) (fun _ => rfl) ?_
  rcases iq_ite h with ⟨hc_, h⟩ | ⟨hc_, h⟩
  · refine iq_G_pos (c := x3 ≤ x7) (σ1 := (97, [some (.ref 63), none, none, some (.int x3), some (.int x4), some (.int x5), some (.int x6), some (.int x7), none], [], (iq_sh l, I, J, X))) (fun _ => rfl) hc_ ?_
    cases h
    exact iq_G_fg (L := [some (.ref 63), none, none, some (.int x3), some (.int x4), some (.int x5), some (.int x6), none, none]) (And.intro rfl (And.intro rfl (And.intro rfl (And.intro rfl (And.intro rfl trivial))))) (hx (x5, x6) rfl)
  · refine iq_G_neg (c := x3 ≤ x7) (σ1 := (35, [some (.ref 63), none, none, some (.int x3), some (.int x4), some (.int x5), some (.int x6), some (.int x7), none], [], (iq_sh l, I, J, X))) (fun _ => rfl) hc_ ?_
    refine iq_G_go (k := 2) (σ' := (39, [some (.ref 63), none, none, some (.int x3), some (.int x4), some (.int x5), some (.int x6), some (.int x7), none], [.int (40 : Int32), .int x7], (iq_sh l, I, J, X))) (fun _ => rfl) ?_
    rcases iq_ite h with ⟨hc_, h⟩ | ⟨hc_, h⟩
    · refine iq_G_pos (c := (40 : Int32) ≤ x7) (σ1 := (97, [some (.ref 63), none, none, some (.int x3), some (.int x4), some (.int x5), some (.int x6), some (.int x7), none], [], (iq_sh l, I, J, X))) (fun _ => rfl) hc_ ?_
      cases h
      exact iq_G_fg (L := [some (.ref 63), none, none, some (.int x3), some (.int x4), some (.int x5), some (.int x6), none, none]) (And.intro rfl (And.intro rfl (And.intro rfl (And.intro rfl (And.intro rfl trivial))))) (hx (x5, x6) rfl)
    · refine iq_G_neg (c := (40 : Int32) ≤ x7) (σ1 := (42, [some (.ref 63), none, none, some (.int x3), some (.int x4), some (.int x5), some (.int x6), some (.int x7), none], [], (iq_sh l, I, J, X))) (fun _ => rfl) hc_ ?_
      refine iq_G_go (k := 6) (σ' := (52, [some (.ref 63), none, none, some (.int x3), some (.int x4), some (.int x5), some (.int x6), some (.int x7), none], [.int (x4 - x7), .int x6, .int x5, .ref 63], (iq_sh l, I, J, X))) (fun _ => rfl) ?_
      obtain ⟨q3, hq3, h⟩ := iq_bnd h
      refine iq_G_call (σ' := (55, [some (.ref 63), none, none, some (.int x3), some (.int x4), some (.int x5), some (.int x6), some (.int x7), none], [.int q3], (iq_sh l, I, J, X))) (fun _ => rfl) (zP_firstFor_ok l x5 x6 (x4 - x7) I J X hq3) rfl rfl ?_
      refine iq_G_go (k := 7) (σ' := (69, [some (.ref 63), none, none, some (.int x3), some (.int x4), some (.int x5), some (.int x6), some (.int x7), some (.int q3)], [.int q3, .ref 4, .ref 4, .int x6], (iq_sh l, I, J, X))) (fun _ => rfl) ?_
      obtain ⟨q4, hq4, h⟩ := iq_bnd h
      refine iq_G_call (σ' := (72, [some (.ref 63), none, none, some (.int x3), some (.int x4), some (.int x5), some (.int x6), some (.int x7), some (.int q3)], [.int q4, .ref 4, .int x6], (iq_sh l, I, J, X))) (fun _ => rfl) (zU_kindOf_ok l q3 I J X hq4) rfl rfl ?_
      obtain ⟨q5, hq5, h⟩ := iq_bnd h
      refine iq_G_call (σ' := (75, [some (.ref 63), none, none, some (.int x3), some (.int x4), some (.int x5), some (.int x6), some (.int x7), some (.int q3)], [.int q5, .int x6], (iq_sh l, I, J, X))) (fun _ => rfl) (zU_priceOf_ok l q4 I J X hq5) rfl rfl ?_
      refine iq_G_go (k := 6) (σ' := (86, [some (.ref 63), none, none, some (.int x3), some (.int x4), some (.int x5), some (.int (x6 - q5)), some (.int x7), some (.int q3)], [.int q3, .int x5, .ref 4], (iq_sh l, I, J, X))) (fun _ => rfl) ?_
      obtain ⟨q6, hq6, h⟩ := iq_bnd h
      refine iq_G_call (σ' := (89, [some (.ref 63), none, none, some (.int x3), some (.int x4), some (.int x5), some (.int (x6 - q5)), some (.int x7), some (.int q3)], [.int q6], (iq_sh l, I, J, X))) (fun _ => rfl) (zU_leadsTo_4_ok l x5 q3 I J X hq6) rfl rfl ?_
      refine iq_G_go (k := 3) (σ' := (29, [some (.ref 63), none, none, some (.int x3), some (.int x4), some (.int q6), some (.int (x6 - q5)), some (.int (x7 + (1 : Int32))), some (.int q3)], [], (iq_sh l, I, J, X))) (fun _ => rfl) ?_
      cases h
      exact iq_G_fg (L := [some (.ref 63), none, none, some (.int x3), some (.int x4), some (.int q6), some (.int (x6 - q5)), some (.int (x7 + (1 : Int32))), none]) (And.intro rfl (And.intro rfl (And.intro rfl (And.intro rfl (And.intro rfl (And.intro rfl trivial)))))) (hc (q6, (x6 - q5), (x7 + (1 : Int32))) rfl)
set_option maxRecDepth 100000 in
theorem zP_wordFor_l29_ok (l : Nat)  (x3 : Int32) (x4 : Int32) (I : iq_I) (J : iq_J) (X : iq_X) {n : Nat} {v : Int32 × Int32 × Int32} {w : Int32 × Int32} (h : zP_wordFor_l29 x3 x4 I n v = some w) (r : iq_R × iq_M) (hq : iq_Gg 3 76 (97, [some (.ref 63), none, none, some (.int x3), some (.int x4), some (.int w.1), some (.int w.2), none, none], [], (iq_sh l, I, J, X)) r) : iq_Gg 3 76 (29, [some (.ref 63), none, none, some (.int x3), some (.int x4), some (.int v.1), some (.int v.2.1), some (.int v.2.2), none], [], (iq_sh l, I, J, X)) r :=
  iq_lp_ok (σ := fun v => (29, [some (.ref 63), none, none, some (.int x3), some (.int x4), some (.int v.1), some (.int v.2.1), some (.int v.2.2), none], [], (iq_sh l, I, J, X))) (Q := fun w r => iq_Gg 3 76 (97, [some (.ref 63), none, none, some (.int x3), some (.int x4), some (.int w.1), some (.int w.2), none, none], [], (iq_sh l, I, J, X)) r) (fun v q hv r h1 h2 => zP_wordFor_l29_bok l x3 x4 I J X v.1 v.2.1 v.2.2 hv r h1 h2) h r hq
set_option maxRecDepth 100000 in
theorem zP_wordFor_97_ok (l : Nat)  (x3 : Int32) (x4 : Int32) (x5 : Int32) (x6 : Int32) (I : iq_I) (J : iq_J) (X : iq_X)  {q : Int32 × iq_I} (h : zP_wordFor_97 x3 x4 x5 x6 I = some q)  : iq_Gg 3 76 (97, [some (.ref 63), none, none, some (.int x3), some (.int x4), some (.int x5), some (.int x6), none, none], [], (iq_sh l, I, J, X)) (.inl (some (.int q.1)), (iq_sh l, q.2, J, X)) := by
  unfold zP_wordFor_97 at h
  refine iq_G_go (k := 6) (σ' := (106, [some (.ref 63), none, none, some (.int x3), some (.int x4), some (.int x5), some (.int x6), none, none], [.int (x4 - x3), .int x6, .int x5, .ref 63], (iq_sh l, I, J, X))) (fun _ => rfl) ?_
  obtain ⟨q8, hq8, h⟩ := iq_bnd h
  refine iq_G_call (σ' := (109, [some (.ref 63), none, none, some (.int x3), some (.int x4), some (.int x5), some (.int x6), none, none], [.int q8], (iq_sh l, I, J, X))) (fun _ => rfl) (zP_firstFor_ok l x5 x6 (x4 - x3) I J X hq8) rfl rfl ?_
  cases h
  exact iq_G_ret (fun _ => rfl)
set_option maxRecDepth 100000 in
theorem zP_wordFor_ok (l : Nat)  (x1 : Int32) (x2 : Int32) (x3 : Int32) (I : iq_I) (J : iq_J) (X : iq_X) {q : Int32 × iq_I} (h : zP_wordFor x1 x2 x3 I = some q) : iq_Cc 4 76 [.ref 63, .int x1, .int x2, .int x3] (iq_sh l, I, J, X) (.inl (some (.int q.1)), (iq_sh l, q.2, J, X)) := by
  refine iq_Cc_of (L := [some (.ref 63), some (.int x1), some (.int x2), some (.int x3), none, none, none, none, none]) rfl rfl ?_
  unfold zP_wordFor at h
  refine iq_G_go (k := 1) (σ' := (1, [some (.ref 63), some (.int x1), some (.int x2), some (.int x3), none, none, none, none, none], [.ref 63], (iq_sh l, I, J, X))) (fun _ => rfl) ?_
  obtain ⟨q1, hq1, h⟩ := iq_bnd h
  refine iq_G_call (σ' := (4, [some (.ref 63), some (.int x1), some (.int x2), some (.int x3), none, none, none, none, none], [], (iq_sh l, q1, J, X))) (fun _ => rfl) (zP_priceRows_ok l  I J X hq1) rfl rfl ?_
  refine iq_G_go (k := 3) (σ' := (7, [some (.ref 63), some (.int x1), some (.int x2), some (.int x3), none, none, none, none, none], [.int x2, .int x1, .ref 63], (iq_sh l, q1, J, X))) (fun _ => rfl) ?_
  obtain ⟨q2, hq2, h⟩ := iq_bnd h
  refine iq_G_call (σ' := (10, [some (.ref 63), some (.int x1), some (.int x2), some (.int x3), none, none, none, none, none], [.int q2], (iq_sh l, q1, J, X))) (fun _ => rfl) (zP_longestFor_ok l x1 x2 q1 J X hq2) rfl rfl ?_
  refine iq_G_go (k := 3) (σ' := (15, [some (.ref 63), some (.int x1), some (.int x2), some (.int x3), some (.int q2), none, none, none, none], [.int q2, .int x3], (iq_sh l, q1, J, X))) (fun _ => rfl) ?_
  rcases iq_ite h with ⟨hc_, h⟩ | ⟨hc_, h⟩
  · refine iq_G_pos (c := x3 < q2) (σ1 := (20, [some (.ref 63), some (.int x1), some (.int x2), some (.int x3), some (.int q2), none, none, none, none], [], (iq_sh l, q1, J, X))) (fun _ => rfl) hc_ ?_
    refine iq_G_go (k := 6) (σ' := (29, [some (.ref 63), some (.int x1), some (.int x2), some (.int x3), some (.int q2), some (.int x1), some (.int x2), some (.int (0 : Int32)), none], [], (iq_sh l, q1, J, X))) (fun _ => rfl) ?_
    obtain ⟨w7, hw7, h⟩ := iq_bnd h
    refine iq_G_fg (L := [some (.ref 63), none, none, some (.int x3), some (.int q2), some (.int x1), some (.int x2), some (.int (0 : Int32)), none]) (And.intro rfl (And.intro rfl (And.intro rfl (And.intro rfl (And.intro rfl (And.intro rfl trivial)))))) ?_
    refine zP_wordFor_l29_ok l x3 q2 q1 J X hw7 _ ?_
    show iq_Gg 3 76 (97, [some (.ref 63), none, none, some (.int x3), some (.int q2), some (.int w7.1), some (.int w7.2), none, none], [], (iq_sh l, q1, J, X)) _
    exact iq_G_fg (L := [some (.ref 63), none, none, some (.int x3), some (.int q2), some (.int w7.1), some (.int w7.2), none, none]) (And.intro rfl (And.intro rfl (And.intro rfl (And.intro rfl (And.intro rfl trivial))))) (zP_wordFor_97_ok l x3 q2 w7.1 w7.2 q1 J X  h )
  · refine iq_G_neg (c := x3 < q2) (σ1 := (18, [some (.ref 63), some (.int x1), some (.int x2), some (.int x3), some (.int q2), none, none, none, none], [], (iq_sh l, q1, J, X))) (fun _ => rfl) hc_ ?_
    refine iq_G_go (k := 1) (σ' := (19, [some (.ref 63), some (.int x1), some (.int x2), some (.int x3), some (.int q2), none, none, none, none], [.int (-1 : Int32)], (iq_sh l, q1, J, X))) (fun _ => rfl) ?_
    cases h
    exact iq_G_ret (fun _ => rfl)
set_option maxRecDepth 100000 in
theorem zO_costs_20_ok (l : Nat)   (I : iq_I) (J : iq_J) (X : iq_X)  {q : (Int32 ⊕ Nat) × iq_I × iq_X} (h : zO_costs_20 I X = some q)  : iq_Gg 4 168 (20, [none, none, none, none], [], (iq_sh l, I, J, X)) ((ir_Ri q.1), (iq_sh l, q.2.1, J, q.2.2)) := by
  unfold zO_costs_20 at h
  cases h
  exact iq_G_ret (fun _ => rfl)
set_option maxRecDepth 100000 in
theorem zO_costs_ok (l : Nat)  (x1 : Int32) (x2 : Int32) (x3 : Int32) (I : iq_I) (J : iq_J) (X : iq_X) {q : (Int32 ⊕ Nat) × iq_I × iq_X} (h : zO_costs x1 x2 x3 I X = some q) : iq_Cc 5 168 [.ref 1, .int x1, .int x2, .int x3] (iq_sh l, I, J, X) ((ir_Ri q.1), (iq_sh l, q.2.1, J, q.2.2)) := by
  refine iq_Cc_of (L := [some (.ref 1), some (.int x1), some (.int x2), some (.int x3)]) rfl rfl ?_
  unfold zO_costs at h
  refine iq_G_go (k := 2) (σ' := (2, [some (.ref 1), some (.int x1), some (.int x2), some (.int x3)], [.int x1, .ref 1], (iq_sh l, I, J, X))) (fun _ => rfl) ?_
  obtain ⟨q1, hq1, h⟩ := iq_bnd h
  have hC := (zO_needState_ok l x1 I J X hq1)
  rcases iq_smc h with ⟨a2, ha, h⟩ | ⟨k3, ha, h⟩
  · rw [ha] at hC
    refine iq_G_call (σ' := (5, [some (.ref 1), some (.int x1), some (.int x2), some (.int x3)], [], (iq_sh l, I, J, q1.2))) (fun _ => rfl) hC rfl rfl ?_
    refine iq_G_go (k := 2) (σ' := (7, [some (.ref 1), some (.int x1), some (.int x2), some (.int x3)], [.int x3, .ref 1], (iq_sh l, I, J, q1.2))) (fun _ => rfl) ?_
    obtain ⟨q4, hq4, h⟩ := iq_bnd h
    have hC := (zO_needNoneOrMore_ok l x3 I J q1.2 hq4)
    rcases iq_smc h with ⟨a5, ha, h⟩ | ⟨k6, ha, h⟩
    · rw [ha] at hC
      refine iq_G_call (σ' := (10, [some (.ref 1), some (.int x1), some (.int x2), some (.int x3)], [], (iq_sh l, I, J, q4.2))) (fun _ => rfl) hC rfl rfl ?_
      refine iq_G_go (k := 1) (σ' := (11, [some (.ref 1), some (.int x1), some (.int x2), some (.int x3)], [.int x2], (iq_sh l, I, J, q4.2))) (fun _ => rfl) ?_
      rcases iq_ite h with ⟨hc_, h⟩ | ⟨hc_, h⟩
      · refine iq_G_pos (c := x2 < 0) (σ1 := (20, [some (.ref 1), some (.int x1), some (.int x2), some (.int x3)], [], (iq_sh l, I, J, q4.2))) (fun _ => rfl) hc_ ?_
        exact iq_G_fg (L := [none, none, none, none]) trivial (zO_costs_20_ok l I J q4.2  h )
      · refine iq_G_neg (c := x2 < 0) (σ1 := (14, [some (.ref 1), some (.int x1), some (.int x2), some (.int x3)], [], (iq_sh l, I, J, q4.2))) (fun _ => rfl) hc_ ?_
        refine iq_G_go (k := 2) (σ' := (17, [some (.ref 1), some (.int x1), some (.int x2), some (.int x3)], [.int (60 : Int32), .int x2], (iq_sh l, I, J, q4.2))) (fun _ => rfl) ?_
        rcases iq_ite h with ⟨hc_, h⟩ | ⟨hc_, h⟩
        · refine iq_G_pos (c := x2 ≤ (60 : Int32)) (σ1 := (30, [some (.ref 1), some (.int x1), some (.int x2), some (.int x3)], [], (iq_sh l, I, J, q4.2))) (fun _ => rfl) hc_ ?_
          refine iq_G_go (k := 2) (σ' := (32, [some (.ref 1), some (.int x1), some (.int x2), some (.int x3)], [.int (-1 : Int32), .int x3], (iq_sh l, I, J, q4.2))) (fun _ => rfl) ?_
          rcases iq_ite h with ⟨hc_, h⟩ | ⟨hc_, h⟩
          · refine iq_G_pos (c := ¬ x3 = (-1 : Int32)) (σ1 := (47, [some (.ref 1), some (.int x1), some (.int x2), some (.int x3)], [], (iq_sh l, I, J, q4.2))) (fun _ => rfl) hc_ ?_
            refine iq_G_go (k := 5) (σ' := (54, [some (.ref 1), some (.int x1), some (.int x2), some (.int x3)], [.int x3, .int x2, .int x1, .ref 63], (iq_sh l, I, J, q4.2))) (fun _ => rfl) ?_
            obtain ⟨q7, hq7, h⟩ := iq_bnd h
            refine iq_G_call (σ' := (57, [some (.ref 1), some (.int x1), some (.int x2), some (.int x3)], [.int q7.1], (iq_sh l, q7.2, J, q4.2))) (fun _ => rfl) (zP_wordFor_ok l x1 x2 x3 I J q4.2 hq7) rfl rfl ?_
            cases h
            exact iq_G_ret (fun _ => rfl)
          · refine iq_G_neg (c := ¬ x3 = (-1 : Int32)) (σ1 := (35, [some (.ref 1), some (.int x1), some (.int x2), some (.int x3)], [], (iq_sh l, I, J, q4.2))) (fun _ => rfl) hc_ ?_
            refine iq_G_go (k := 4) (σ' := (41, [some (.ref 1), some (.int x1), some (.int x2), some (.int x3)], [.int x2, .int x1, .ref 63], (iq_sh l, I, J, q4.2))) (fun _ => rfl) ?_
            obtain ⟨q8, hq8, h⟩ := iq_bnd h
            refine iq_G_call (σ' := (44, [some (.ref 1), some (.int x1), some (.int x2), some (.int x3)], [.int q8.1], (iq_sh l, q8.2, J, q4.2))) (fun _ => rfl) (zP_mostFor_ok l x1 x2 I J q4.2 hq8) rfl rfl ?_
            refine iq_G_go (k := 1) (σ' := (57, [some (.ref 1), some (.int x1), some (.int x2), some (.int x3)], [.int q8.1], (iq_sh l, q8.2, J, q4.2))) (fun _ => rfl) ?_
            cases h
            exact iq_G_ret (fun _ => rfl)
        · refine iq_G_neg (c := x2 ≤ (60 : Int32)) (σ1 := (20, [some (.ref 1), some (.int x1), some (.int x2), some (.int x3)], [], (iq_sh l, I, J, q4.2))) (fun _ => rfl) hc_ ?_
          exact iq_G_fg (L := [none, none, none, none]) trivial (zO_costs_20_ok l I J q4.2  h )
    · rw [ha] at hC
      cases h
      exact iq_G_callx (fun _ => rfl) hC rfl rfl
  · rw [ha] at hC
    cases h
    exact iq_G_callx (fun _ => rfl) hC rfl rfl
set_option maxRecDepth 100000 in
theorem zL_costs_ok (l : Nat)  (x1 : Int32) (x2 : Int32) (x3 : Int32) (I : iq_I) (J : iq_J) (X : iq_X) {q : Int32 × iq_I × iq_J × iq_X} (h : zL_costs x1 x2 x3 I J X = some q) : iq_Cc 6 340 [.ref 1, .int x1, .int x2, .int x3, .ref 114] (iq_sh l, I, J, X) (.inl (some (.int q.1)), (iq_sh l, q.2.1, q.2.2.1, q.2.2.2)) := by
  refine iq_Cc_of (L := [some (.ref 1), some (.int x1), some (.int x2), some (.int x3), some (.ref 114), none]) rfl rfl ?_
  unfold zL_costs at h
  refine iq_G_go (k := 6) (σ' := (7, [some (.ref 1), some (.int x1), some (.int x2), some (.int x3), some (.ref 114), none], [.int x3, .int x2, .int x1, .ref 1, .int (0 : Int32), .ref 114], (iq_sh l, I, J, X))) (fun _ => rfl) ?_
  obtain ⟨q1, hq1, h⟩ := iq_bnd h
  have hC := (zO_costs_ok l x1 x2 x3 I J X hq1)
  rcases iq_smc h with ⟨a2, ha, h⟩ | ⟨k3, ha, h⟩
  · rw [ha] at hC
    refine iq_G_call (σ' := (10, [some (.ref 1), some (.int x1), some (.int x2), some (.int x3), some (.ref 114), none], [.int a2, .int (0 : Int32), .ref 114], (iq_sh l, q1.2.1, J, q1.2.2))) (fun _ => rfl) hC rfl rfl ?_
    refine iq_G_go (k := 1) (σ' := (11, [some (.ref 1), some (.int x1), some (.int x2), some (.int x3), some (.ref 114), none], [.long (Int32.toInt64 a2), .int (0 : Int32), .ref 114], (iq_sh l, q1.2.1, J, q1.2.2))) (fun _ => rfl) ?_
    refine iq_G_go (k := 1) (σ' := (12, [some (.ref 1), some (.int x1), some (.int x2), some (.int x3), some (.ref 114), none], [], (iq_sh l, q1.2.1, (iq_upJ J 114 0 (Int32.toInt64 a2)), q1.2.2))) (fun _ => rfl) ?_
    obtain ⟨J4, eJ4, h⟩ := ir_letG h
    rw [← eJ4]
    clear eJ4
    refine iq_G_go (k := 2) (σ' := (24, [some (.ref 1), some (.int x1), some (.int x2), some (.int x3), some (.ref 114), none], [.int (0 : Int32)], (iq_sh l, q1.2.1, J4, q1.2.2))) (fun _ => rfl) ?_
    cases h
    exact iq_G_ret (fun _ => rfl)
  · rw [ha] at hC
    rcases iq_ite h with ⟨e, h⟩ | ⟨_, h⟩
    · subst e
      refine iq_G_call (σ' := (17, [some (.ref 1), some (.int x1), some (.int x2), some (.int x3), some (.ref 114), none], [], (iq_sh l, q1.2.1, J, q1.2.2))) (fun _ => rfl) hC rfl rfl ?_
      refine iq_G_go (k := 1) (σ' := (18, [some (.ref 1), some (.int x1), some (.int x2), some (.int x3), some (.ref 114), none], [.int (1 : Int32)], (iq_sh l, q1.2.1, J, q1.2.2))) (fun _ => rfl) ?_
      cases h
      exact iq_G_ret (fun _ => rfl)
    · obtain ⟨e, h⟩ := iq_itn h
      subst e
      refine iq_G_call (σ' := (21, [some (.ref 1), some (.int x1), some (.int x2), some (.int x3), some (.ref 114), none], [], (iq_sh l, q1.2.1, J, q1.2.2))) (fun _ => rfl) hC rfl rfl ?_
      refine iq_G_go (k := 1) (σ' := (22, [some (.ref 1), some (.int x1), some (.int x2), some (.int x3), some (.ref 114), none], [.int (2 : Int32)], (iq_sh l, q1.2.1, J, q1.2.2))) (fun _ => rfl) ?_
      cases h
      exact iq_G_ret (fun _ => rfl)
set_option maxRecDepth 100000 in
theorem zM_costs_l51_bok (l : Nat)  (x1 : Int32) (x2 : Int32) (x3 : Int32) (J : iq_J) (X : iq_X) (x4 : Int32) (I : iq_I) {q : (Int32 × iq_I) ⊕ (iq_I)} (h : zM_costs_l51_b x1 x2 x3 x4 I = some q) (r : iq_R × iq_M) (hc : ∀ v, q = .inl v → iq_Gg 2 280 (51, [some (.ref 76), some (.int x1), some (.int x2), some (.int x3), some (.int v.1), none, none, none, none, none], [], (iq_sh l, v.2, J, X)) r) (hx : ∀ w, q = .inr w → iq_Gg 2 280 (74, [some (.ref 76), some (.int x1), some (.int x2), some (.int x3), none, none, none, none, none, none], [], (iq_sh l, w, J, X)) r) : iq_Gg 2 280 (51, [some (.ref 76), some (.int x1), some (.int x2), some (.int x3), some (.int x4), none, none, none, none, none], [], (iq_sh l, I, J, X)) r := by
  unfold zM_costs_l51_b at h
  refine iq_G_go (k := 3) (σ' := (57, [some (.ref 76), some (.int x1), some (.int x2), some (.int x3), some (.int x4), none, none, none, none, none], [.int (I 76 1), .int x4], (iq_sh l, I, J, X))) (fun _ => rfl) ?_
  rcases iq_ite h with ⟨hc_, h⟩ | ⟨hc_, h⟩
  · refine iq_G_pos (c := (I 76 1) ≤ x4) (σ1 := (74, [some (.ref 76), some (.int x1), some (.int x2), some (.int x3), some (.int x4), none, none, none, none, none], [], (iq_sh l, I, J, X))) (fun _ => rfl) hc_ ?_
    cases h
    exact iq_G_fg (L := [some (.ref 76), some (.int x1), some (.int x2), some (.int x3), none, none, none, none, none, none]) (And.intro rfl (And.intro rfl (And.intro rfl (And.intro rfl trivial)))) (hx I rfl)
  · refine iq_G_neg (c := (I 76 1) ≤ x4) (σ1 := (60, [some (.ref 76), some (.int x1), some (.int x2), some (.int x3), some (.int x4), none, none, none, none, none], [], (iq_sh l, I, J, X))) (fun _ => rfl) hc_ ?_
    refine iq_G_go (k := 4) (σ' := (67, [some (.ref 76), some (.int x1), some (.int x2), some (.int x3), some (.int x4), none, none, none, none, none], [.int (0 : Int32), .int x4, .ref 107], (iq_sh l, I, J, X))) (fun _ => rfl) ?_
    obtain ⟨hc_, h⟩ := iq_itn h
    refine iq_G_pos (c := iq_in x4 410) (σ1 := (68, [some (.ref 76), some (.int x1), some (.int x2), some (.int x3), some (.int x4), none, none, none, none, none], [], (iq_sh l, (iq_upI I 107 (Int32.toNatClampNeg x4) (0 : Int32)), J, X))) (fun _ => rfl) hc_ ?_
    obtain ⟨I6, eI6, h⟩ := ir_letG h
    rw [← eI6]
    clear eI6
    refine iq_G_go (k := 2) (σ' := (51, [some (.ref 76), some (.int x1), some (.int x2), some (.int x3), some (.int (x4 + (1 : Int32))), none, none, none, none, none], [], (iq_sh l, I6, J, X))) (fun _ => rfl) ?_
    cases h
    exact iq_G_fg (L := [some (.ref 76), some (.int x1), some (.int x2), some (.int x3), some (.int (x4 + (1 : Int32))), none, none, none, none, none]) (And.intro rfl (And.intro rfl (And.intro rfl (And.intro rfl (And.intro rfl trivial))))) (hc ((x4 + (1 : Int32)), I6) rfl)
set_option maxRecDepth 100000 in
theorem zM_costs_l51_ok (l : Nat)  (x1 : Int32) (x2 : Int32) (x3 : Int32) (J : iq_J) (X : iq_X) {n : Nat} {v : Int32 × iq_I} {w : iq_I} (h : zM_costs_l51 x1 x2 x3 n v = some w) (r : iq_R × iq_M) (hq : iq_Gg 2 280 (74, [some (.ref 76), some (.int x1), some (.int x2), some (.int x3), none, none, none, none, none, none], [], (iq_sh l, w, J, X)) r) : iq_Gg 2 280 (51, [some (.ref 76), some (.int x1), some (.int x2), some (.int x3), some (.int v.1), none, none, none, none, none], [], (iq_sh l, v.2, J, X)) r :=
  iq_lp_ok (σ := fun v => (51, [some (.ref 76), some (.int x1), some (.int x2), some (.int x3), some (.int v.1), none, none, none, none, none], [], (iq_sh l, v.2, J, X))) (Q := fun w r => iq_Gg 2 280 (74, [some (.ref 76), some (.int x1), some (.int x2), some (.int x3), none, none, none, none, none, none], [], (iq_sh l, w, J, X)) r) (fun v q hv r h1 h2 => zM_costs_l51_bok l x1 x2 x3 J X v.1 v.2 hv r h1 h2) h r hq
set_option maxRecDepth 100000 in
theorem zM_costs_l107_bok (l : Nat)  (x1 : Int32) (x2 : Int32) (x3 : Int32) (x4 : Int32) (x5 : Int32) (x6 : Int32) (I : iq_I) (J : iq_J) (X : iq_X) (x7 : Int32) (x8 : Int32)  {q : (Int32 × Int32) ⊕ (Int32)} (h : zM_costs_l107_b x1 x2 x3 x4 x5 x6 I x7 x8 = some q) (r : iq_R × iq_M) (hc : ∀ v, q = .inl v → iq_Gg 2 280 (107, [some (.ref 76), some (.int x1), some (.int x2), some (.int x3), some (.int x4), some (.int x5), some (.int x6), some (.int v.1), some (.int v.2), none], [], (iq_sh l, I, J, X)) r) (hx : ∀ w, q = .inr w → iq_Gg 2 280 (189, [some (.ref 76), some (.int x1), some (.int x2), some (.int x3), some (.int x4), some (.int x5), some (.int x6), some (.int w), none, none], [], (iq_sh l, I, J, X)) r) : iq_Gg 2 280 (107, [some (.ref 76), some (.int x1), some (.int x2), some (.int x3), some (.int x4), some (.int x5), some (.int x6), some (.int x7), some (.int x8), none], [], (iq_sh l, I, J, X)) r := by
  unfold zM_costs_l107_b at h
  refine iq_G_go (k := 3) (σ' := (113, [some (.ref 76), some (.int x1), some (.int x2), some (.int x3), some (.int x4), some (.int x5), some (.int x6), some (.int x7), some (.int x8), none], [.int (I 76 2), .int x8], (iq_sh l, I, J, X))) (fun _ => rfl) ?_
  rcases iq_ite h with ⟨hc_, h⟩ | ⟨hc_, h⟩
  · refine iq_G_pos (c := (I 76 2) ≤ x8) (σ1 := (189, [some (.ref 76), some (.int x1), some (.int x2), some (.int x3), some (.int x4), some (.int x5), some (.int x6), some (.int x7), some (.int x8), none], [], (iq_sh l, I, J, X))) (fun _ => rfl) hc_ ?_
    cases h
    exact iq_G_fg (L := [some (.ref 76), some (.int x1), some (.int x2), some (.int x3), some (.int x4), some (.int x5), some (.int x6), some (.int x7), none, none]) (And.intro rfl (And.intro rfl (And.intro rfl (And.intro rfl (And.intro rfl (And.intro rfl (And.intro rfl (And.intro rfl trivial)))))))) (hx x7 rfl)
  · refine iq_G_neg (c := (I 76 2) ≤ x8) (σ1 := (116, [some (.ref 76), some (.int x1), some (.int x2), some (.int x3), some (.int x4), some (.int x5), some (.int x6), some (.int x7), some (.int x8), none], [], (iq_sh l, I, J, X))) (fun _ => rfl) hc_ ?_
    refine iq_G_go (k := 3) (σ' := (121, [some (.ref 76), some (.int x1), some (.int x2), some (.int x3), some (.int x4), some (.int x5), some (.int x6), some (.int x7), some (.int x8), none], [.int x8, .int x6, .ref 76], (iq_sh l, I, J, X))) (fun _ => rfl) ?_
    obtain ⟨q8, hq8, h⟩ := iq_bnd h
    refine iq_G_call (σ' := (124, [some (.ref 76), some (.int x1), some (.int x2), some (.int x3), some (.int x4), some (.int x5), some (.int x6), some (.int x7), some (.int x8), none], [.int q8], (iq_sh l, I, J, X))) (fun _ => rfl) (zM_leads_ok l x6 x8 I J X hq8) rfl rfl ?_
    refine iq_G_go (k := 1) (σ' := (125, [some (.ref 76), some (.int x1), some (.int x2), some (.int x3), some (.int x4), some (.int x5), some (.int x6), some (.int x7), some (.int x8), none], [.int (-1 : Int32), .int q8], (iq_sh l, I, J, X))) (fun _ => rfl) ?_
    rcases iq_ite h with ⟨hc_, h⟩ | ⟨hc_, h⟩
    · refine iq_G_pos (c := ¬ q8 = (-1 : Int32)) (σ1 := (131, [some (.ref 76), some (.int x1), some (.int x2), some (.int x3), some (.int x4), some (.int x5), some (.int x6), some (.int x7), some (.int x8), none], [], (iq_sh l, I, J, X))) (fun _ => rfl) hc_ ?_
      refine iq_G_go (k := 5) (σ' := (141, [some (.ref 76), some (.int x1), some (.int x2), some (.int x3), some (.int x4), some (.int x5), some (.int x6), some (.int x7), some (.int x8), none], [.int x8, .ref 79, .ref 81], (iq_sh l, I, J, X))) (fun _ => rfl) ?_
      obtain ⟨hc_, h⟩ := iq_itn h
      refine iq_G_pos (c := iq_in x8 14) (σ1 := (142, [some (.ref 76), some (.int x1), some (.int x2), some (.int x3), some (.int x4), some (.int x5), some (.int x6), some (.int x7), some (.int x8), none], [.int (I 79 (Int32.toNatClampNeg x8)), .ref 81], (iq_sh l, I, J, X))) (fun _ => rfl) hc_ ?_
      obtain ⟨hc_, h⟩ := iq_itn h
      refine iq_G_pos (c := iq_in (I 79 (Int32.toNatClampNeg x8)) 8) (σ1 := (143, [some (.ref 76), some (.int x1), some (.int x2), some (.int x3), some (.int x4), some (.int x5), some (.int x6), some (.int x7), some (.int x8), none], [.int (I 81 (Int32.toNatClampNeg (I 79 (Int32.toNatClampNeg x8))))], (iq_sh l, I, J, X))) (fun _ => rfl) hc_ ?_
      refine iq_G_go (k := 10) (σ' := (159, [some (.ref 76), some (.int x1), some (.int x2), some (.int x3), some (.int x4), some (.int x5), some (.int x6), some (.int x7), some (.int x8), none], [.int x8, .int x6, .ref 76, .int ((10 : Int32) * (x5 - (1 : Int32))), .ref 107, .int (I 81 (Int32.toNatClampNeg (I 79 (Int32.toNatClampNeg x8))))], (iq_sh l, I, J, X))) (fun _ => rfl) ?_
      obtain ⟨q9, hq9, h⟩ := iq_bnd h
      refine iq_G_call (σ' := (162, [some (.ref 76), some (.int x1), some (.int x2), some (.int x3), some (.int x4), some (.int x5), some (.int x6), some (.int x7), some (.int x8), none], [.int q9, .int ((10 : Int32) * (x5 - (1 : Int32))), .ref 107, .int (I 81 (Int32.toNatClampNeg (I 79 (Int32.toNatClampNeg x8))))], (iq_sh l, I, J, X))) (fun _ => rfl) (zM_leads_ok l x6 x8 I J X hq9) rfl rfl ?_
      refine iq_G_go (k := 1) (σ' := (163, [some (.ref 76), some (.int x1), some (.int x2), some (.int x3), some (.int x4), some (.int x5), some (.int x6), some (.int x7), some (.int x8), none], [.int (((10 : Int32) * (x5 - (1 : Int32))) + q9), .ref 107, .int (I 81 (Int32.toNatClampNeg (I 79 (Int32.toNatClampNeg x8))))], (iq_sh l, I, J, X))) (fun _ => rfl) ?_
      obtain ⟨hc_, h⟩ := iq_itn h
      have st_ : ∀ (z_0 : Int32) (r_ : iq_R × iq_M), iq_in z_0 410 → iq_Gg 2 280 (164, [some (.ref 76), some (.int x1), some (.int x2), some (.int x3), some (.int x4), some (.int x5), some (.int x6), some (.int x7), some (.int x8), none], [.int (I 107 (Int32.toNatClampNeg z_0)), .int (I 81 (Int32.toNatClampNeg (I 79 (Int32.toNatClampNeg x8))))], (iq_sh l, I, J, X)) r_ → iq_Gg 2 280 (163, [some (.ref 76), some (.int x1), some (.int x2), some (.int x3), some (.int x4), some (.int x5), some (.int x6), some (.int x7), some (.int x8), none], [.int z_0, .ref 107, .int (I 81 (Int32.toNatClampNeg (I 79 (Int32.toNatClampNeg x8))))], (iq_sh l, I, J, X)) r_ := fun z_0 r_ hc_ hg_ => iq_G_pos (c := iq_in z_0 410) (σ1 := (164, [some (.ref 76), some (.int x1), some (.int x2), some (.int x3), some (.int x4), some (.int x5), some (.int x6), some (.int x7), some (.int x8), none], [.int (I 107 (Int32.toNatClampNeg z_0)), .int (I 81 (Int32.toNatClampNeg (I 79 (Int32.toNatClampNeg x8))))], (iq_sh l, I, J, X))) (fun _ => rfl) hc_ hg_
      refine st_ (((10 : Int32) * (x5 - (1 : Int32))) + q9) _ hc_ ?_
      clear st_
      refine iq_G_go (k := 4) (σ' := (171, [some (.ref 76), some (.int x1), some (.int x2), some (.int x3), some (.int x4), some (.int x5), some (.int x6), some (.int x7), some (.int x8), some (.int ((I 81 (Int32.toNatClampNeg (I 79 (Int32.toNatClampNeg x8)))) + (I 107 (Int32.toNatClampNeg (((10 : Int32) * (x5 - (1 : Int32))) + q9)))))], [.int x7, .int ((I 81 (Int32.toNatClampNeg (I 79 (Int32.toNatClampNeg x8)))) + (I 107 (Int32.toNatClampNeg (((10 : Int32) * (x5 - (1 : Int32))) + q9))))], (iq_sh l, I, J, X))) (fun _ => rfl) ?_
      rcases iq_ite h with ⟨hc_, h⟩ | ⟨hc_, h⟩
      · have st_ : ∀ (z_0 : Int32) (r_ : iq_R × iq_M), x7 ≤ z_0 → iq_Gg 2 280 (179, [some (.ref 76), some (.int x1), some (.int x2), some (.int x3), some (.int x4), some (.int x5), some (.int x6), some (.int x7), some (.int x8), some (.int z_0)], [], (iq_sh l, I, J, X)) r_ → iq_Gg 2 280 (171, [some (.ref 76), some (.int x1), some (.int x2), some (.int x3), some (.int x4), some (.int x5), some (.int x6), some (.int x7), some (.int x8), some (.int z_0)], [.int x7, .int z_0], (iq_sh l, I, J, X)) r_ := fun z_0 r_ hc_ hg_ => iq_G_pos (c := x7 ≤ z_0) (σ1 := (179, [some (.ref 76), some (.int x1), some (.int x2), some (.int x3), some (.int x4), some (.int x5), some (.int x6), some (.int x7), some (.int x8), some (.int z_0)], [], (iq_sh l, I, J, X))) (fun _ => rfl) hc_ hg_
        refine st_ ((I 81 (Int32.toNatClampNeg (I 79 (Int32.toNatClampNeg x8)))) + (I 107 (Int32.toNatClampNeg (((10 : Int32) * (x5 - (1 : Int32))) + q9)))) _ hc_ ?_
        clear st_
        refine iq_G_go (k := 4) (σ' := (107, [some (.ref 76), some (.int x1), some (.int x2), some (.int x3), some (.int x4), some (.int x5), some (.int x6), some (.int x7), some (.int (x8 + (1 : Int32))), some (.int ((I 81 (Int32.toNatClampNeg (I 79 (Int32.toNatClampNeg x8)))) + (I 107 (Int32.toNatClampNeg (((10 : Int32) * (x5 - (1 : Int32))) + q9)))))], [], (iq_sh l, I, J, X))) (fun _ => rfl) ?_
        cases h
        exact iq_G_fg (L := [some (.ref 76), some (.int x1), some (.int x2), some (.int x3), some (.int x4), some (.int x5), some (.int x6), some (.int x7), some (.int (x8 + (1 : Int32))), none]) (And.intro rfl (And.intro rfl (And.intro rfl (And.intro rfl (And.intro rfl (And.intro rfl (And.intro rfl (And.intro rfl (And.intro rfl trivial))))))))) (hc (x7, (x8 + (1 : Int32))) rfl)
      · have st_ : ∀ (z_0 : Int32) (r_ : iq_R × iq_M), ¬ (x7 ≤ z_0) → iq_Gg 2 280 (174, [some (.ref 76), some (.int x1), some (.int x2), some (.int x3), some (.int x4), some (.int x5), some (.int x6), some (.int x7), some (.int x8), some (.int z_0)], [], (iq_sh l, I, J, X)) r_ → iq_Gg 2 280 (171, [some (.ref 76), some (.int x1), some (.int x2), some (.int x3), some (.int x4), some (.int x5), some (.int x6), some (.int x7), some (.int x8), some (.int z_0)], [.int x7, .int z_0], (iq_sh l, I, J, X)) r_ := fun z_0 r_ hc_ hg_ => iq_G_neg (c := x7 ≤ z_0) (σ1 := (174, [some (.ref 76), some (.int x1), some (.int x2), some (.int x3), some (.int x4), some (.int x5), some (.int x6), some (.int x7), some (.int x8), some (.int z_0)], [], (iq_sh l, I, J, X))) (fun _ => rfl) hc_ hg_
        refine st_ ((I 81 (Int32.toNatClampNeg (I 79 (Int32.toNatClampNeg x8)))) + (I 107 (Int32.toNatClampNeg (((10 : Int32) * (x5 - (1 : Int32))) + q9)))) _ hc_ ?_
        clear st_
        refine iq_G_go (k := 5) (σ' := (107, [some (.ref 76), some (.int x1), some (.int x2), some (.int x3), some (.int x4), some (.int x5), some (.int x6), some (.int ((I 81 (Int32.toNatClampNeg (I 79 (Int32.toNatClampNeg x8)))) + (I 107 (Int32.toNatClampNeg (((10 : Int32) * (x5 - (1 : Int32))) + q9))))), some (.int (x8 + (1 : Int32))), some (.int ((I 81 (Int32.toNatClampNeg (I 79 (Int32.toNatClampNeg x8)))) + (I 107 (Int32.toNatClampNeg (((10 : Int32) * (x5 - (1 : Int32))) + q9)))))], [], (iq_sh l, I, J, X))) (fun _ => rfl) ?_
        cases h
        exact iq_G_fg (L := [some (.ref 76), some (.int x1), some (.int x2), some (.int x3), some (.int x4), some (.int x5), some (.int x6), some (.int ((I 81 (Int32.toNatClampNeg (I 79 (Int32.toNatClampNeg x8)))) + (I 107 (Int32.toNatClampNeg (((10 : Int32) * (x5 - (1 : Int32))) + q9))))), some (.int (x8 + (1 : Int32))), none]) (And.intro rfl (And.intro rfl (And.intro rfl (And.intro rfl (And.intro rfl (And.intro rfl (And.intro rfl (And.intro rfl (And.intro rfl trivial))))))))) (hc (((I 81 (Int32.toNatClampNeg (I 79 (Int32.toNatClampNeg x8)))) + (I 107 (Int32.toNatClampNeg (((10 : Int32) * (x5 - (1 : Int32))) + q9)))), (x8 + (1 : Int32))) rfl)
    · refine iq_G_neg (c := ¬ q8 = (-1 : Int32)) (σ1 := (128, [some (.ref 76), some (.int x1), some (.int x2), some (.int x3), some (.int x4), some (.int x5), some (.int x6), some (.int x7), some (.int x8), none], [], (iq_sh l, I, J, X))) (fun _ => rfl) hc_ ?_
      refine iq_G_go (k := 3) (σ' := (107, [some (.ref 76), some (.int x1), some (.int x2), some (.int x3), some (.int x4), some (.int x5), some (.int x6), some (.int x7), some (.int (x8 + (1 : Int32))), none], [], (iq_sh l, I, J, X))) (fun _ => rfl) ?_
      cases h
      exact iq_G_fg (L := [some (.ref 76), some (.int x1), some (.int x2), some (.int x3), some (.int x4), some (.int x5), some (.int x6), some (.int x7), some (.int (x8 + (1 : Int32))), none]) (And.intro rfl (And.intro rfl (And.intro rfl (And.intro rfl (And.intro rfl (And.intro rfl (And.intro rfl (And.intro rfl (And.intro rfl trivial))))))))) (hc (x7, (x8 + (1 : Int32))) rfl)
set_option maxRecDepth 100000 in
theorem zM_costs_l107_ok (l : Nat)  (x1 : Int32) (x2 : Int32) (x3 : Int32) (x4 : Int32) (x5 : Int32) (x6 : Int32) (I : iq_I) (J : iq_J) (X : iq_X) {n : Nat} {v : Int32 × Int32} {w : Int32} (h : zM_costs_l107 x1 x2 x3 x4 x5 x6 I n v = some w) (r : iq_R × iq_M) (hq : iq_Gg 2 280 (189, [some (.ref 76), some (.int x1), some (.int x2), some (.int x3), some (.int x4), some (.int x5), some (.int x6), some (.int w), none, none], [], (iq_sh l, I, J, X)) r) : iq_Gg 2 280 (107, [some (.ref 76), some (.int x1), some (.int x2), some (.int x3), some (.int x4), some (.int x5), some (.int x6), some (.int v.1), some (.int v.2), none], [], (iq_sh l, I, J, X)) r :=
  iq_lp_ok (σ := fun v => (107, [some (.ref 76), some (.int x1), some (.int x2), some (.int x3), some (.int x4), some (.int x5), some (.int x6), some (.int v.1), some (.int v.2), none], [], (iq_sh l, I, J, X))) (Q := fun w r => iq_Gg 2 280 (189, [some (.ref 76), some (.int x1), some (.int x2), some (.int x3), some (.int x4), some (.int x5), some (.int x6), some (.int w), none, none], [], (iq_sh l, I, J, X)) r) (fun v q hv r h1 h2 => zM_costs_l107_bok l x1 x2 x3 x4 x5 x6 I J X v.1 v.2 hv r h1 h2) h r hq
set_option maxRecDepth 100000 in
theorem zM_costs_l90_bok (l : Nat)  (x1 : Int32) (x2 : Int32) (x3 : Int32) (x4 : Int32) (x5 : Int32) (J : iq_J) (X : iq_X) (x6 : Int32) (I : iq_I) {q : (Int32 × iq_I) ⊕ (iq_I)} (h : zM_costs_l90_b x1 x2 x3 x4 x5 x6 I = some q) (r : iq_R × iq_M) (hc : ∀ v, q = .inl v → iq_Gg 2 280 (90, [some (.ref 76), some (.int x1), some (.int x2), some (.int x3), some (.int x4), some (.int x5), some (.int v.1), none, none, none], [], (iq_sh l, v.2, J, X)) r) (hx : ∀ w, q = .inr w → iq_Gg 2 280 (210, [some (.ref 76), some (.int x1), some (.int x2), some (.int x3), some (.int x4), some (.int x5), none, none, none, none], [], (iq_sh l, w, J, X)) r) : iq_Gg 2 280 (90, [some (.ref 76), some (.int x1), some (.int x2), some (.int x3), some (.int x4), some (.int x5), some (.int x6), none, none, none], [], (iq_sh l, I, J, X)) r := by
  unfold zM_costs_l90_b at h
  refine iq_G_go (k := 3) (σ' := (96, [some (.ref 76), some (.int x1), some (.int x2), some (.int x3), some (.int x4), some (.int x5), some (.int x6), none, none, none], [.int (I 76 1), .int x6], (iq_sh l, I, J, X))) (fun _ => rfl) ?_
  rcases iq_ite h with ⟨hc_, h⟩ | ⟨hc_, h⟩
  · refine iq_G_pos (c := (I 76 1) ≤ x6) (σ1 := (210, [some (.ref 76), some (.int x1), some (.int x2), some (.int x3), some (.int x4), some (.int x5), some (.int x6), none, none, none], [], (iq_sh l, I, J, X))) (fun _ => rfl) hc_ ?_
    cases h
    exact iq_G_fg (L := [some (.ref 76), some (.int x1), some (.int x2), some (.int x3), some (.int x4), some (.int x5), none, none, none, none]) (And.intro rfl (And.intro rfl (And.intro rfl (And.intro rfl (And.intro rfl (And.intro rfl trivial)))))) (hx I rfl)
  · refine iq_G_neg (c := (I 76 1) ≤ x6) (σ1 := (99, [some (.ref 76), some (.int x1), some (.int x2), some (.int x3), some (.int x4), some (.int x5), some (.int x6), none, none, none], [], (iq_sh l, I, J, X))) (fun _ => rfl) hc_ ?_
    refine iq_G_go (k := 4) (σ' := (107, [some (.ref 76), some (.int x1), some (.int x2), some (.int x3), some (.int x4), some (.int x5), some (.int x6), some (.int (1000000 : Int32)), some (.int (0 : Int32)), none], [], (iq_sh l, I, J, X))) (fun _ => rfl) ?_
    obtain ⟨w10, hw10, h⟩ := iq_bnd h
    refine iq_G_fg (L := [some (.ref 76), some (.int x1), some (.int x2), some (.int x3), some (.int x4), some (.int x5), some (.int x6), some (.int (1000000 : Int32)), some (.int (0 : Int32)), none]) (And.intro rfl (And.intro rfl (And.intro rfl (And.intro rfl (And.intro rfl (And.intro rfl (And.intro rfl (And.intro rfl (And.intro rfl trivial))))))))) ?_
    refine zM_costs_l107_ok l x1 x2 x3 x4 x5 x6 I J X hw10 _ ?_
    show iq_Gg 2 280 (189, [some (.ref 76), some (.int x1), some (.int x2), some (.int x3), some (.int x4), some (.int x5), some (.int x6), some (.int w10), none, none], [], (iq_sh l, I, J, X)) _
    refine iq_G_go (k := 8) (σ' := (203, [some (.ref 76), some (.int x1), some (.int x2), some (.int x3), some (.int x4), some (.int x5), some (.int x6), some (.int w10), none, none], [.int w10, .int (((10 : Int32) * x5) + x6), .ref 107], (iq_sh l, I, J, X))) (fun _ => rfl) ?_
    obtain ⟨hc_, h⟩ := iq_itn h
    refine iq_G_pos (c := iq_in (((10 : Int32) * x5) + x6) 410) (σ1 := (204, [some (.ref 76), some (.int x1), some (.int x2), some (.int x3), some (.int x4), some (.int x5), some (.int x6), some (.int w10), none, none], [], (iq_sh l, (iq_upI I 107 (Int32.toNatClampNeg (((10 : Int32) * x5) + x6)) w10), J, X))) (fun _ => rfl) hc_ ?_
    obtain ⟨I11, eI11, h⟩ := ir_letG h
    rw [← eI11]
    clear eI11
    refine iq_G_go (k := 2) (σ' := (90, [some (.ref 76), some (.int x1), some (.int x2), some (.int x3), some (.int x4), some (.int x5), some (.int (x6 + (1 : Int32))), some (.int w10), none, none], [], (iq_sh l, I11, J, X))) (fun _ => rfl) ?_
    cases h
    exact iq_G_fg (L := [some (.ref 76), some (.int x1), some (.int x2), some (.int x3), some (.int x4), some (.int x5), some (.int (x6 + (1 : Int32))), none, none, none]) (And.intro rfl (And.intro rfl (And.intro rfl (And.intro rfl (And.intro rfl (And.intro rfl (And.intro rfl trivial))))))) (hc ((x6 + (1 : Int32)), I11) rfl)
set_option maxRecDepth 100000 in
theorem zM_costs_l90_ok (l : Nat)  (x1 : Int32) (x2 : Int32) (x3 : Int32) (x4 : Int32) (x5 : Int32) (J : iq_J) (X : iq_X) {n : Nat} {v : Int32 × iq_I} {w : iq_I} (h : zM_costs_l90 x1 x2 x3 x4 x5 n v = some w) (r : iq_R × iq_M) (hq : iq_Gg 2 280 (210, [some (.ref 76), some (.int x1), some (.int x2), some (.int x3), some (.int x4), some (.int x5), none, none, none, none], [], (iq_sh l, w, J, X)) r) : iq_Gg 2 280 (90, [some (.ref 76), some (.int x1), some (.int x2), some (.int x3), some (.int x4), some (.int x5), some (.int v.1), none, none, none], [], (iq_sh l, v.2, J, X)) r :=
  iq_lp_ok (σ := fun v => (90, [some (.ref 76), some (.int x1), some (.int x2), some (.int x3), some (.int x4), some (.int x5), some (.int v.1), none, none, none], [], (iq_sh l, v.2, J, X))) (Q := fun w r => iq_Gg 2 280 (210, [some (.ref 76), some (.int x1), some (.int x2), some (.int x3), some (.int x4), some (.int x5), none, none, none, none], [], (iq_sh l, w, J, X)) r) (fun v q hv r h1 h2 => zM_costs_l90_bok l x1 x2 x3 x4 x5 J X v.1 v.2 hv r h1 h2) h r hq
set_option maxRecDepth 100000 in
theorem zM_costs_l80_bok (l : Nat)  (x1 : Int32) (x2 : Int32) (x3 : Int32) (J : iq_J) (X : iq_X) (x4 : Int32) (x5 : Int32) (I : iq_I) {q : (Int32 × Int32 × iq_I) ⊕ (Int32 × iq_I)} (h : zM_costs_l80_b x1 x2 x3 x4 x5 I = some q) (r : iq_R × iq_M) (hc : ∀ v, q = .inl v → iq_Gg 2 280 (80, [some (.ref 76), some (.int x1), some (.int x2), some (.int x3), some (.int v.1), some (.int v.2.1), none, none, none, none], [], (iq_sh l, v.2.2, J, X)) r) (hx : ∀ w, q = .inr w → iq_Gg 2 280 (236, [some (.ref 76), some (.int x1), some (.int x2), some (.int x3), some (.int w.1), none, none, none, none, none], [], (iq_sh l, w.2, J, X)) r) : iq_Gg 2 280 (80, [some (.ref 76), some (.int x1), some (.int x2), some (.int x3), some (.int x4), some (.int x5), none, none, none, none], [], (iq_sh l, I, J, X)) r := by
  unfold zM_costs_l80_b at h
  refine iq_G_go (k := 2) (σ' := (84, [some (.ref 76), some (.int x1), some (.int x2), some (.int x3), some (.int x4), some (.int x5), none, none, none, none], [.int (40 : Int32), .int x5], (iq_sh l, I, J, X))) (fun _ => rfl) ?_
  rcases iq_ite h with ⟨hc_, h⟩ | ⟨hc_, h⟩
  · refine iq_G_pos (c := (40 : Int32) < x5) (σ1 := (236, [some (.ref 76), some (.int x1), some (.int x2), some (.int x3), some (.int x4), some (.int x5), none, none, none, none], [], (iq_sh l, I, J, X))) (fun _ => rfl) hc_ ?_
    cases h
    exact iq_G_fg (L := [some (.ref 76), some (.int x1), some (.int x2), some (.int x3), some (.int x4), none, none, none, none, none]) (And.intro rfl (And.intro rfl (And.intro rfl (And.intro rfl (And.intro rfl trivial))))) (hx (x4, I) rfl)
  · refine iq_G_neg (c := (40 : Int32) < x5) (σ1 := (87, [some (.ref 76), some (.int x1), some (.int x2), some (.int x3), some (.int x4), some (.int x5), none, none, none, none], [], (iq_sh l, I, J, X))) (fun _ => rfl) hc_ ?_
    refine iq_G_go (k := 2) (σ' := (90, [some (.ref 76), some (.int x1), some (.int x2), some (.int x3), some (.int x4), some (.int x5), some (.int (0 : Int32)), none, none, none], [], (iq_sh l, I, J, X))) (fun _ => rfl) ?_
    obtain ⟨w12, hw12, h⟩ := iq_bnd h
    refine iq_G_fg (L := [some (.ref 76), some (.int x1), some (.int x2), some (.int x3), some (.int x4), some (.int x5), some (.int (0 : Int32)), none, none, none]) (And.intro rfl (And.intro rfl (And.intro rfl (And.intro rfl (And.intro rfl (And.intro rfl (And.intro rfl trivial))))))) ?_
    refine zM_costs_l90_ok l x1 x2 x3 x4 x5 J X hw12 _ ?_
    show iq_Gg 2 280 (210, [some (.ref 76), some (.int x1), some (.int x2), some (.int x3), some (.int x4), some (.int x5), none, none, none, none], [], (iq_sh l, w12, J, X)) _
    refine iq_G_go (k := 7) (σ' := (221, [some (.ref 76), some (.int x1), some (.int x2), some (.int x3), some (.int x4), some (.int x5), none, none, none, none], [.int (((10 : Int32) * x5) + x1), .ref 107], (iq_sh l, w12, J, X))) (fun _ => rfl) ?_
    obtain ⟨hc_, h⟩ := iq_itn h
    refine iq_G_pos (c := iq_in (((10 : Int32) * x5) + x1) 410) (σ1 := (222, [some (.ref 76), some (.int x1), some (.int x2), some (.int x3), some (.int x4), some (.int x5), none, none, none, none], [.int (w12 107 (Int32.toNatClampNeg (((10 : Int32) * x5) + x1)))], (iq_sh l, w12, J, X))) (fun _ => rfl) hc_ ?_
    refine iq_G_go (k := 1) (σ' := (223, [some (.ref 76), some (.int x1), some (.int x2), some (.int x3), some (.int x4), some (.int x5), none, none, none, none], [.int x2, .int (w12 107 (Int32.toNatClampNeg (((10 : Int32) * x5) + x1)))], (iq_sh l, w12, J, X))) (fun _ => rfl) ?_
    rcases iq_ite h with ⟨hc_, h⟩ | ⟨hc_, h⟩
    · refine iq_G_pos (c := x2 < (w12 107 (Int32.toNatClampNeg (((10 : Int32) * x5) + x1)))) (σ1 := (230, [some (.ref 76), some (.int x1), some (.int x2), some (.int x3), some (.int x4), some (.int x5), none, none, none, none], [], (iq_sh l, w12, J, X))) (fun _ => rfl) hc_ ?_
      refine iq_G_go (k := 2) (σ' := (80, [some (.ref 76), some (.int x1), some (.int x2), some (.int x3), some (.int x4), some (.int (x5 + (1 : Int32))), none, none, none, none], [], (iq_sh l, w12, J, X))) (fun _ => rfl) ?_
      cases h
      exact iq_G_fg (L := [some (.ref 76), some (.int x1), some (.int x2), some (.int x3), some (.int x4), some (.int (x5 + (1 : Int32))), none, none, none, none]) (And.intro rfl (And.intro rfl (And.intro rfl (And.intro rfl (And.intro rfl (And.intro rfl trivial)))))) (hc (x4, (x5 + (1 : Int32)), w12) rfl)
    · refine iq_G_neg (c := x2 < (w12 107 (Int32.toNatClampNeg (((10 : Int32) * x5) + x1)))) (σ1 := (226, [some (.ref 76), some (.int x1), some (.int x2), some (.int x3), some (.int x4), some (.int x5), none, none, none, none], [], (iq_sh l, w12, J, X))) (fun _ => rfl) hc_ ?_
      refine iq_G_go (k := 4) (σ' := (80, [some (.ref 76), some (.int x1), some (.int x2), some (.int x3), some (.int x5), some (.int (x5 + (1 : Int32))), none, none, none, none], [], (iq_sh l, w12, J, X))) (fun _ => rfl) ?_
      cases h
      exact iq_G_fg (L := [some (.ref 76), some (.int x1), some (.int x2), some (.int x3), some (.int x5), some (.int (x5 + (1 : Int32))), none, none, none, none]) (And.intro rfl (And.intro rfl (And.intro rfl (And.intro rfl (And.intro rfl (And.intro rfl trivial)))))) (hc (x5, (x5 + (1 : Int32)), w12) rfl)
set_option maxRecDepth 100000 in
theorem zM_costs_l80_ok (l : Nat)  (x1 : Int32) (x2 : Int32) (x3 : Int32) (J : iq_J) (X : iq_X) {n : Nat} {v : Int32 × Int32 × iq_I} {w : Int32 × iq_I} (h : zM_costs_l80 x1 x2 x3 n v = some w) (r : iq_R × iq_M) (hq : iq_Gg 2 280 (236, [some (.ref 76), some (.int x1), some (.int x2), some (.int x3), some (.int w.1), none, none, none, none, none], [], (iq_sh l, w.2, J, X)) r) : iq_Gg 2 280 (80, [some (.ref 76), some (.int x1), some (.int x2), some (.int x3), some (.int v.1), some (.int v.2.1), none, none, none, none], [], (iq_sh l, v.2.2, J, X)) r :=
  iq_lp_ok (σ := fun v => (80, [some (.ref 76), some (.int x1), some (.int x2), some (.int x3), some (.int v.1), some (.int v.2.1), none, none, none, none], [], (iq_sh l, v.2.2, J, X))) (Q := fun w r => iq_Gg 2 280 (236, [some (.ref 76), some (.int x1), some (.int x2), some (.int x3), some (.int w.1), none, none, none, none, none], [], (iq_sh l, w.2, J, X)) r) (fun v q hv r h1 h2 => zM_costs_l80_bok l x1 x2 x3 J X v.1 v.2.1 v.2.2 hv r h1 h2) h r hq
set_option maxRecDepth 100000 in
theorem zM_costs_l273_bok (l : Nat)  (x3 : Int32) (x4 : Int32) (x5 : Int32) (x6 : Int32) (x8 : Int32) (I : iq_I) (J : iq_J) (X : iq_X) (x9 : Int32)  {q : (Int32) ⊕ (Int32)} (h : zM_costs_l273_b x3 x4 x5 x6 x8 I x9 = some q) (r : iq_R × iq_M) (hc : ∀ v, q = .inl v → iq_Gg 2 280 (273, [some (.ref 76), none, none, some (.int x3), some (.int x4), some (.int x5), some (.int x6), none, some (.int x8), some (.int v)], [], (iq_sh l, I, J, X)) r) (hx : ∀ w, q = .inr w → iq_Gg 2 280 (333, [some (.ref 76), none, none, some (.int x3), some (.int x4), some (.int x5), some (.int x6), none, some (.int x8), some (.int w)], [], (iq_sh l, I, J, X)) r) : iq_Gg 2 280 (273, [some (.ref 76), none, none, some (.int x3), some (.int x4), some (.int x5), some (.int x6), none, some (.int x8), some (.int x9)], [], (iq_sh l, I, J, X)) r := by
  unfold zM_costs_l273_b at h
  refine iq_G_go (k := 3) (σ' := (278, [some (.ref 76), none, none, some (.int x3), some (.int x4), some (.int x5), some (.int x6), none, some (.int x8), some (.int x9)], [.int x9, .int x5, .ref 76], (iq_sh l, I, J, X))) (fun _ => rfl) ?_
  obtain ⟨q14, hq14, h⟩ := iq_bnd h
  refine iq_G_call (σ' := (281, [some (.ref 76), none, none, some (.int x3), some (.int x4), some (.int x5), some (.int x6), none, some (.int x8), some (.int x9)], [.int q14], (iq_sh l, I, J, X))) (fun _ => rfl) (zM_leads_ok l x5 x9 I J X hq14) rfl rfl ?_
  refine iq_G_go (k := 1) (σ' := (282, [some (.ref 76), none, none, some (.int x3), some (.int x4), some (.int x5), some (.int x6), none, some (.int x8), some (.int x9)], [.int (-1 : Int32), .int q14], (iq_sh l, I, J, X))) (fun _ => rfl) ?_
  rcases iq_ite h with ⟨hc_, h⟩ | ⟨hc_, h⟩
  · refine iq_G_pos (c := q14 = (-1 : Int32)) (σ1 := (327, [some (.ref 76), none, none, some (.int x3), some (.int x4), some (.int x5), some (.int x6), none, some (.int x8), some (.int x9)], [], (iq_sh l, I, J, X))) (fun _ => rfl) hc_ ?_
    refine iq_G_go (k := 2) (σ' := (273, [some (.ref 76), none, none, some (.int x3), some (.int x4), some (.int x5), some (.int x6), none, some (.int x8), some (.int (x9 + (1 : Int32)))], [], (iq_sh l, I, J, X))) (fun _ => rfl) ?_
    cases h
    exact iq_G_fg (L := [some (.ref 76), none, none, some (.int x3), some (.int x4), some (.int x5), some (.int x6), none, some (.int x8), some (.int (x9 + (1 : Int32)))]) (And.intro rfl (And.intro rfl (And.intro rfl (And.intro rfl (And.intro rfl (And.intro rfl (And.intro rfl trivial))))))) (hc (x9 + (1 : Int32)) rfl)
  · refine iq_G_neg (c := q14 = (-1 : Int32)) (σ1 := (285, [some (.ref 76), none, none, some (.int x3), some (.int x4), some (.int x5), some (.int x6), none, some (.int x8), some (.int x9)], [], (iq_sh l, I, J, X))) (fun _ => rfl) hc_ ?_
    refine iq_G_go (k := 5) (σ' := (295, [some (.ref 76), none, none, some (.int x3), some (.int x4), some (.int x5), some (.int x6), none, some (.int x8), some (.int x9)], [.int x9, .ref 79, .ref 81], (iq_sh l, I, J, X))) (fun _ => rfl) ?_
    obtain ⟨hc_, h⟩ := iq_itn h
    refine iq_G_pos (c := iq_in x9 14) (σ1 := (296, [some (.ref 76), none, none, some (.int x3), some (.int x4), some (.int x5), some (.int x6), none, some (.int x8), some (.int x9)], [.int (I 79 (Int32.toNatClampNeg x9)), .ref 81], (iq_sh l, I, J, X))) (fun _ => rfl) hc_ ?_
    obtain ⟨hc_, h⟩ := iq_itn h
    refine iq_G_pos (c := iq_in (I 79 (Int32.toNatClampNeg x9)) 8) (σ1 := (297, [some (.ref 76), none, none, some (.int x3), some (.int x4), some (.int x5), some (.int x6), none, some (.int x8), some (.int x9)], [.int (I 81 (Int32.toNatClampNeg (I 79 (Int32.toNatClampNeg x9))))], (iq_sh l, I, J, X))) (fun _ => rfl) hc_ ?_
    refine iq_G_go (k := 12) (σ' := (316, [some (.ref 76), none, none, some (.int x3), some (.int x4), some (.int x5), some (.int x6), none, some (.int x8), some (.int x9)], [.int x9, .int x5, .ref 76, .int ((10 : Int32) * ((x4 - (1 : Int32)) - x8)), .ref 107, .int (I 81 (Int32.toNatClampNeg (I 79 (Int32.toNatClampNeg x9))))], (iq_sh l, I, J, X))) (fun _ => rfl) ?_
    obtain ⟨q15, hq15, h⟩ := iq_bnd h
    refine iq_G_call (σ' := (319, [some (.ref 76), none, none, some (.int x3), some (.int x4), some (.int x5), some (.int x6), none, some (.int x8), some (.int x9)], [.int q15, .int ((10 : Int32) * ((x4 - (1 : Int32)) - x8)), .ref 107, .int (I 81 (Int32.toNatClampNeg (I 79 (Int32.toNatClampNeg x9))))], (iq_sh l, I, J, X))) (fun _ => rfl) (zM_leads_ok l x5 x9 I J X hq15) rfl rfl ?_
    refine iq_G_go (k := 1) (σ' := (320, [some (.ref 76), none, none, some (.int x3), some (.int x4), some (.int x5), some (.int x6), none, some (.int x8), some (.int x9)], [.int (((10 : Int32) * ((x4 - (1 : Int32)) - x8)) + q15), .ref 107, .int (I 81 (Int32.toNatClampNeg (I 79 (Int32.toNatClampNeg x9))))], (iq_sh l, I, J, X))) (fun _ => rfl) ?_
    obtain ⟨hc_, h⟩ := iq_itn h
    have st_ : ∀ (z_0 : Int32) (r_ : iq_R × iq_M), iq_in z_0 410 → iq_Gg 2 280 (321, [some (.ref 76), none, none, some (.int x3), some (.int x4), some (.int x5), some (.int x6), none, some (.int x8), some (.int x9)], [.int (I 107 (Int32.toNatClampNeg z_0)), .int (I 81 (Int32.toNatClampNeg (I 79 (Int32.toNatClampNeg x9))))], (iq_sh l, I, J, X)) r_ → iq_Gg 2 280 (320, [some (.ref 76), none, none, some (.int x3), some (.int x4), some (.int x5), some (.int x6), none, some (.int x8), some (.int x9)], [.int z_0, .ref 107, .int (I 81 (Int32.toNatClampNeg (I 79 (Int32.toNatClampNeg x9))))], (iq_sh l, I, J, X)) r_ := fun z_0 r_ hc_ hg_ => iq_G_pos (c := iq_in z_0 410) (σ1 := (321, [some (.ref 76), none, none, some (.int x3), some (.int x4), some (.int x5), some (.int x6), none, some (.int x8), some (.int x9)], [.int (I 107 (Int32.toNatClampNeg z_0)), .int (I 81 (Int32.toNatClampNeg (I 79 (Int32.toNatClampNeg x9))))], (iq_sh l, I, J, X))) (fun _ => rfl) hc_ hg_
    refine st_ (((10 : Int32) * ((x4 - (1 : Int32)) - x8)) + q15) _ hc_ ?_
    clear st_
    refine iq_G_go (k := 2) (σ' := (324, [some (.ref 76), none, none, some (.int x3), some (.int x4), some (.int x5), some (.int x6), none, some (.int x8), some (.int x9)], [.int x6, .int ((I 81 (Int32.toNatClampNeg (I 79 (Int32.toNatClampNeg x9)))) + (I 107 (Int32.toNatClampNeg (((10 : Int32) * ((x4 - (1 : Int32)) - x8)) + q15))))], (iq_sh l, I, J, X))) (fun _ => rfl) ?_
    rcases iq_ite h with ⟨hc_, h⟩ | ⟨hc_, h⟩
    · have st_ : ∀ (z_0 : Int32) (r_ : iq_R × iq_M), z_0 ≤ x6 → iq_Gg 2 280 (333, [some (.ref 76), none, none, some (.int x3), some (.int x4), some (.int x5), some (.int x6), none, some (.int x8), some (.int x9)], [], (iq_sh l, I, J, X)) r_ → iq_Gg 2 280 (324, [some (.ref 76), none, none, some (.int x3), some (.int x4), some (.int x5), some (.int x6), none, some (.int x8), some (.int x9)], [.int x6, .int z_0], (iq_sh l, I, J, X)) r_ := fun z_0 r_ hc_ hg_ => iq_G_pos (c := z_0 ≤ x6) (σ1 := (333, [some (.ref 76), none, none, some (.int x3), some (.int x4), some (.int x5), some (.int x6), none, some (.int x8), some (.int x9)], [], (iq_sh l, I, J, X))) (fun _ => rfl) hc_ hg_
      refine st_ ((I 81 (Int32.toNatClampNeg (I 79 (Int32.toNatClampNeg x9)))) + (I 107 (Int32.toNatClampNeg (((10 : Int32) * ((x4 - (1 : Int32)) - x8)) + q15)))) _ hc_ ?_
      clear st_
      cases h
      exact iq_G_fg (L := [some (.ref 76), none, none, some (.int x3), some (.int x4), some (.int x5), some (.int x6), none, some (.int x8), some (.int x9)]) (And.intro rfl (And.intro rfl (And.intro rfl (And.intro rfl (And.intro rfl (And.intro rfl (And.intro rfl trivial))))))) (hx x9 rfl)
    · have st_ : ∀ (z_0 : Int32) (r_ : iq_R × iq_M), ¬ (z_0 ≤ x6) → iq_Gg 2 280 (327, [some (.ref 76), none, none, some (.int x3), some (.int x4), some (.int x5), some (.int x6), none, some (.int x8), some (.int x9)], [], (iq_sh l, I, J, X)) r_ → iq_Gg 2 280 (324, [some (.ref 76), none, none, some (.int x3), some (.int x4), some (.int x5), some (.int x6), none, some (.int x8), some (.int x9)], [.int x6, .int z_0], (iq_sh l, I, J, X)) r_ := fun z_0 r_ hc_ hg_ => iq_G_neg (c := z_0 ≤ x6) (σ1 := (327, [some (.ref 76), none, none, some (.int x3), some (.int x4), some (.int x5), some (.int x6), none, some (.int x8), some (.int x9)], [], (iq_sh l, I, J, X))) (fun _ => rfl) hc_ hg_
      refine st_ ((I 81 (Int32.toNatClampNeg (I 79 (Int32.toNatClampNeg x9)))) + (I 107 (Int32.toNatClampNeg (((10 : Int32) * ((x4 - (1 : Int32)) - x8)) + q15)))) _ hc_ ?_
      clear st_
      refine iq_G_go (k := 2) (σ' := (273, [some (.ref 76), none, none, some (.int x3), some (.int x4), some (.int x5), some (.int x6), none, some (.int x8), some (.int (x9 + (1 : Int32)))], [], (iq_sh l, I, J, X))) (fun _ => rfl) ?_
      cases h
      exact iq_G_fg (L := [some (.ref 76), none, none, some (.int x3), some (.int x4), some (.int x5), some (.int x6), none, some (.int x8), some (.int (x9 + (1 : Int32)))]) (And.intro rfl (And.intro rfl (And.intro rfl (And.intro rfl (And.intro rfl (And.intro rfl (And.intro rfl trivial))))))) (hc (x9 + (1 : Int32)) rfl)
set_option maxRecDepth 100000 in
theorem zM_costs_l273_ok (l : Nat)  (x3 : Int32) (x4 : Int32) (x5 : Int32) (x6 : Int32) (x8 : Int32) (I : iq_I) (J : iq_J) (X : iq_X) {n : Nat} {v : Int32} {w : Int32} (h : zM_costs_l273 x3 x4 x5 x6 x8 I n v = some w) (r : iq_R × iq_M) (hq : iq_Gg 2 280 (333, [some (.ref 76), none, none, some (.int x3), some (.int x4), some (.int x5), some (.int x6), none, some (.int x8), some (.int w)], [], (iq_sh l, I, J, X)) r) : iq_Gg 2 280 (273, [some (.ref 76), none, none, some (.int x3), some (.int x4), some (.int x5), some (.int x6), none, some (.int x8), some (.int v)], [], (iq_sh l, I, J, X)) r :=
  iq_lp_ok (σ := fun v => (273, [some (.ref 76), none, none, some (.int x3), some (.int x4), some (.int x5), some (.int x6), none, some (.int x8), some (.int v)], [], (iq_sh l, I, J, X))) (Q := fun w r => iq_Gg 2 280 (333, [some (.ref 76), none, none, some (.int x3), some (.int x4), some (.int x5), some (.int x6), none, some (.int x8), some (.int w)], [], (iq_sh l, I, J, X)) r) (fun v q hv r h1 h2 => zM_costs_l273_bok l x3 x4 x5 x6 x8 I J X v hv r h1 h2) h r hq
set_option maxRecDepth 100000 in
theorem zM_costs_l264_bok (l : Nat)  (x3 : Int32) (x4 : Int32) (I : iq_I) (J : iq_J) (X : iq_X) (x5 : Int32) (x6 : Int32) (x7 : Int32) (x8 : Int32)  {q : (Int32 × Int32 × Int32 × Int32) ⊕ (Int32)} (h : zM_costs_l264_b x3 x4 I x5 x6 x7 x8 = some q) (r : iq_R × iq_M) (hc : ∀ v, q = .inl v → iq_Gg 2 280 (264, [some (.ref 76), none, none, some (.int x3), some (.int x4), some (.int v.1), some (.int v.2.1), some (.int v.2.2.1), some (.int v.2.2.2), none], [], (iq_sh l, I, J, X)) r) (hx : ∀ w, q = .inr w → iq_Gg 2 280 (370, [none, none, none, none, none, none, none, some (.int w), none, none], [], (iq_sh l, I, J, X)) r) : iq_Gg 2 280 (264, [some (.ref 76), none, none, some (.int x3), some (.int x4), some (.int x5), some (.int x6), some (.int x7), some (.int x8), none], [], (iq_sh l, I, J, X)) r := by
  unfold zM_costs_l264_b at h
  refine iq_G_go (k := 2) (σ' := (267, [some (.ref 76), none, none, some (.int x3), some (.int x4), some (.int x5), some (.int x6), some (.int x7), some (.int x8), none], [.int x3, .int x8], (iq_sh l, I, J, X))) (fun _ => rfl) ?_
  rcases iq_ite h with ⟨hc_, h⟩ | ⟨hc_, h⟩
  · refine iq_G_pos (c := x3 < x8) (σ1 := (370, [some (.ref 76), none, none, some (.int x3), some (.int x4), some (.int x5), some (.int x6), some (.int x7), some (.int x8), none], [], (iq_sh l, I, J, X))) (fun _ => rfl) hc_ ?_
    cases h
    exact iq_G_fg (L := [none, none, none, none, none, none, none, some (.int x7), none, none]) (And.intro rfl trivial) (hx x7 rfl)
  · refine iq_G_neg (c := x3 < x8) (σ1 := (270, [some (.ref 76), none, none, some (.int x3), some (.int x4), some (.int x5), some (.int x6), some (.int x7), some (.int x8), none], [], (iq_sh l, I, J, X))) (fun _ => rfl) hc_ ?_
    refine iq_G_go (k := 2) (σ' := (273, [some (.ref 76), none, none, some (.int x3), some (.int x4), some (.int x5), some (.int x6), some (.int x7), some (.int x8), some (.int (0 : Int32))], [], (iq_sh l, I, J, X))) (fun _ => rfl) ?_
    obtain ⟨w16, hw16, h⟩ := iq_bnd h
    refine iq_G_fg (L := [some (.ref 76), none, none, some (.int x3), some (.int x4), some (.int x5), some (.int x6), none, some (.int x8), some (.int (0 : Int32))]) (And.intro rfl (And.intro rfl (And.intro rfl (And.intro rfl (And.intro rfl (And.intro rfl (And.intro rfl trivial))))))) ?_
    refine zM_costs_l273_ok l x3 x4 x5 x6 x8 I J X hw16 _ ?_
    show iq_Gg 2 280 (333, [some (.ref 76), none, none, some (.int x3), some (.int x4), some (.int x5), some (.int x6), none, some (.int x8), some (.int w16)], [], (iq_sh l, I, J, X)) _
    refine iq_G_go (k := 8) (σ' := (349, [some (.ref 76), none, none, some (.int x3), some (.int x4), some (.int x5), some (.int x6), some (.int w16), some (.int x8), some (.int w16)], [.int w16, .ref 79, .ref 81, .int x6], (iq_sh l, I, J, X))) (fun _ => rfl) ?_
    obtain ⟨hc_, h⟩ := iq_itn h
    refine iq_G_pos (c := iq_in w16 14) (σ1 := (350, [some (.ref 76), none, none, some (.int x3), some (.int x4), some (.int x5), some (.int x6), some (.int w16), some (.int x8), some (.int w16)], [.int (I 79 (Int32.toNatClampNeg w16)), .ref 81, .int x6], (iq_sh l, I, J, X))) (fun _ => rfl) hc_ ?_
    obtain ⟨hc_, h⟩ := iq_itn h
    refine iq_G_pos (c := iq_in (I 79 (Int32.toNatClampNeg w16)) 8) (σ1 := (351, [some (.ref 76), none, none, some (.int x3), some (.int x4), some (.int x5), some (.int x6), some (.int w16), some (.int x8), some (.int w16)], [.int (I 81 (Int32.toNatClampNeg (I 79 (Int32.toNatClampNeg w16)))), .int x6], (iq_sh l, I, J, X))) (fun _ => rfl) hc_ ?_
    refine iq_G_go (k := 5) (σ' := (359, [some (.ref 76), none, none, some (.int x3), some (.int x4), some (.int x5), some (.int (x6 - (I 81 (Int32.toNatClampNeg (I 79 (Int32.toNatClampNeg w16)))))), some (.int w16), some (.int x8), some (.int w16)], [.int w16, .int x5, .ref 76], (iq_sh l, I, J, X))) (fun _ => rfl) ?_
    obtain ⟨q17, hq17, h⟩ := iq_bnd h
    refine iq_G_call (σ' := (362, [some (.ref 76), none, none, some (.int x3), some (.int x4), some (.int x5), some (.int (x6 - (I 81 (Int32.toNatClampNeg (I 79 (Int32.toNatClampNeg w16)))))), some (.int w16), some (.int x8), some (.int w16)], [.int q17], (iq_sh l, I, J, X))) (fun _ => rfl) (zM_leads_ok l x5 w16 I J X hq17) rfl rfl ?_
    refine iq_G_go (k := 3) (σ' := (264, [some (.ref 76), none, none, some (.int x3), some (.int x4), some (.int q17), some (.int (x6 - (I 81 (Int32.toNatClampNeg (I 79 (Int32.toNatClampNeg w16)))))), some (.int w16), some (.int (x8 + (1 : Int32))), some (.int w16)], [], (iq_sh l, I, J, X))) (fun _ => rfl) ?_
    cases h
    exact iq_G_fg (L := [some (.ref 76), none, none, some (.int x3), some (.int x4), some (.int q17), some (.int (x6 - (I 81 (Int32.toNatClampNeg (I 79 (Int32.toNatClampNeg w16)))))), some (.int w16), some (.int (x8 + (1 : Int32))), none]) (And.intro rfl (And.intro rfl (And.intro rfl (And.intro rfl (And.intro rfl (And.intro rfl (And.intro rfl trivial))))))) (hc (q17, (x6 - (I 81 (Int32.toNatClampNeg (I 79 (Int32.toNatClampNeg w16))))), w16, (x8 + (1 : Int32))) rfl)
set_option maxRecDepth 100000 in
theorem zM_costs_l264_ok (l : Nat)  (x3 : Int32) (x4 : Int32) (I : iq_I) (J : iq_J) (X : iq_X) {n : Nat} {v : Int32 × Int32 × Int32 × Int32} {w : Int32} (h : zM_costs_l264 x3 x4 I n v = some w) (r : iq_R × iq_M) (hq : iq_Gg 2 280 (370, [none, none, none, none, none, none, none, some (.int w), none, none], [], (iq_sh l, I, J, X)) r) : iq_Gg 2 280 (264, [some (.ref 76), none, none, some (.int x3), some (.int x4), some (.int v.1), some (.int v.2.1), some (.int v.2.2.1), some (.int v.2.2.2), none], [], (iq_sh l, I, J, X)) r :=
  iq_lp_ok (σ := fun v => (264, [some (.ref 76), none, none, some (.int x3), some (.int x4), some (.int v.1), some (.int v.2.1), some (.int v.2.2.1), some (.int v.2.2.2), none], [], (iq_sh l, I, J, X))) (Q := fun w r => iq_Gg 2 280 (370, [none, none, none, none, none, none, none, some (.int w), none, none], [], (iq_sh l, I, J, X)) r) (fun v q hv r h1 h2 => zM_costs_l264_bok l x3 x4 I J X v.1 v.2.1 v.2.2.1 v.2.2.2 hv r h1 h2) h r hq
set_option maxRecDepth 100000 in
theorem zM_costs_24_ok (l : Nat)  (x1 : Int32) (x2 : Int32) (x3 : Int32) (s1 : Int32) (I : iq_I) (J : iq_J) (X : iq_X)  {q : Int32 × iq_I} (h : zM_costs_24 x1 x2 x3 s1 I = some q)  : iq_Gg 2 280 (24, [some (.ref 76), some (.int x1), some (.int x2), some (.int x3), none, none, none, none, none, none], [.int s1, .ref 76], (iq_sh l, I, J, X)) (.inl (some (.int q.1)), (iq_sh l, q.2, J, X)) := by
  unfold zM_costs_24 at h
  refine iq_G_go (k := 1) (σ' := (25, [some (.ref 76), some (.int x1), some (.int x2), some (.int x3), none, none, none, none, none, none], [.int (1 : Int32), .int s1, .ref 76], (iq_sh l, I, J, X))) (fun _ => rfl) ?_
  obtain ⟨q3, hq3, h⟩ := iq_bnd h
  refine iq_G_call (σ' := (28, [some (.ref 76), some (.int x1), some (.int x2), some (.int x3), none, none, none, none, none, none], [.int q3.1], (iq_sh l, q3.2, J, X))) (fun _ => rfl) (zM_right_ok l s1 (1 : Int32) I J X hq3) rfl rfl ?_
  rcases iq_ite h with ⟨hc_, h⟩ | ⟨hc_, h⟩
  · refine iq_G_pos (c := q3.1 = 0) (σ1 := (46, [some (.ref 76), some (.int x1), some (.int x2), some (.int x3), none, none, none, none, none, none], [], (iq_sh l, q3.2, J, X))) (fun _ => rfl) hc_ ?_
    refine iq_G_go (k := 1) (σ' := (47, [some (.ref 76), some (.int x1), some (.int x2), some (.int x3), none, none, none, none, none, none], [.int (0 : Int32)], (iq_sh l, q3.2, J, X))) (fun _ => rfl) ?_
    cases h
    exact iq_G_ret (fun _ => rfl)
  · refine iq_G_neg (c := q3.1 = 0) (σ1 := (31, [some (.ref 76), some (.int x1), some (.int x2), some (.int x3), none, none, none, none, none, none], [], (iq_sh l, q3.2, J, X))) (fun _ => rfl) hc_ ?_
    refine iq_G_go (k := 4) (σ' := (36, [some (.ref 76), some (.int x1), some (.int x2), some (.int x3), none, none, none, none, none, none], [.int (60 : Int32), .int (0 : Int32), .int x2, .ref 76], (iq_sh l, q3.2, J, X))) (fun _ => rfl) ?_
    obtain ⟨q4, hq4, h⟩ := iq_bnd h
    refine iq_G_call (σ' := (39, [some (.ref 76), some (.int x1), some (.int x2), some (.int x3), none, none, none, none, none, none], [.int q4, .ref 76], (iq_sh l, q3.2, J, X))) (fun _ => rfl) (zM_within_ok l x2 (0 : Int32) (60 : Int32) q3.2 J X hq4) rfl rfl ?_
    refine iq_G_go (k := 1) (σ' := (40, [some (.ref 76), some (.int x1), some (.int x2), some (.int x3), none, none, none, none, none, none], [.int (2 : Int32), .int q4, .ref 76], (iq_sh l, q3.2, J, X))) (fun _ => rfl) ?_
    obtain ⟨q5, hq5, h⟩ := iq_bnd h
    refine iq_G_call (σ' := (43, [some (.ref 76), some (.int x1), some (.int x2), some (.int x3), none, none, none, none, none, none], [.int q5.1], (iq_sh l, q5.2, J, X))) (fun _ => rfl) (zM_right_ok l q4 (2 : Int32) q3.2 J X hq5) rfl rfl ?_
    rcases iq_ite h with ⟨hc_, h⟩ | ⟨hc_, h⟩
    · refine iq_G_pos (c := ¬ q5.1 = 0) (σ1 := (48, [some (.ref 76), some (.int x1), some (.int x2), some (.int x3), none, none, none, none, none, none], [], (iq_sh l, q5.2, J, X))) (fun _ => rfl) hc_ ?_
      refine iq_G_go (k := 2) (σ' := (51, [some (.ref 76), some (.int x1), some (.int x2), some (.int x3), some (.int (0 : Int32)), none, none, none, none, none], [], (iq_sh l, q5.2, J, X))) (fun _ => rfl) ?_
      obtain ⟨w7, hw7, h⟩ := iq_bnd h
      refine iq_G_fg (L := [some (.ref 76), some (.int x1), some (.int x2), some (.int x3), some (.int (0 : Int32)), none, none, none, none, none]) (And.intro rfl (And.intro rfl (And.intro rfl (And.intro rfl (And.intro rfl trivial))))) ?_
      refine zM_costs_l51_ok l x1 x2 x3 J X hw7 _ ?_
      show iq_Gg 2 280 (74, [some (.ref 76), some (.int x1), some (.int x2), some (.int x3), none, none, none, none, none, none], [], (iq_sh l, w7, J, X)) _
      refine iq_G_go (k := 4) (σ' := (80, [some (.ref 76), some (.int x1), some (.int x2), some (.int x3), some (.int (0 : Int32)), some (.int (1 : Int32)), none, none, none, none], [], (iq_sh l, w7, J, X))) (fun _ => rfl) ?_
      obtain ⟨w13, hw13, h⟩ := iq_bnd h
      refine iq_G_fg (L := [some (.ref 76), some (.int x1), some (.int x2), some (.int x3), some (.int (0 : Int32)), some (.int (1 : Int32)), none, none, none, none]) (And.intro rfl (And.intro rfl (And.intro rfl (And.intro rfl (And.intro rfl (And.intro rfl trivial)))))) ?_
      refine zM_costs_l80_ok l x1 x2 x3 J X hw13 _ ?_
      show iq_Gg 2 280 (236, [some (.ref 76), some (.int x1), some (.int x2), some (.int x3), some (.int w13.1), none, none, none, none, none], [], (iq_sh l, w13.2, J, X)) _
      refine iq_G_go (k := 2) (σ' := (238, [some (.ref 76), some (.int x1), some (.int x2), some (.int x3), some (.int w13.1), none, none, none, none, none], [.int (-1 : Int32), .int x3], (iq_sh l, w13.2, J, X))) (fun _ => rfl) ?_
      rcases iq_ite h with ⟨hc_, h⟩ | ⟨hc_, h⟩
      · refine iq_G_pos (c := ¬ x3 = (-1 : Int32)) (σ1 := (244, [some (.ref 76), some (.int x1), some (.int x2), some (.int x3), some (.int w13.1), none, none, none, none, none], [], (iq_sh l, w13.2, J, X))) (fun _ => rfl) hc_ ?_
        refine iq_G_go (k := 2) (σ' := (247, [some (.ref 76), some (.int x1), some (.int x2), some (.int x3), some (.int w13.1), none, none, none, none, none], [.int w13.1, .int x3], (iq_sh l, w13.2, J, X))) (fun _ => rfl) ?_
        rcases iq_ite h with ⟨hc_, h⟩ | ⟨hc_, h⟩
        · refine iq_G_pos (c := x3 < w13.1) (σ1 := (252, [some (.ref 76), some (.int x1), some (.int x2), some (.int x3), some (.int w13.1), none, none, none, none, none], [], (iq_sh l, w13.2, J, X))) (fun _ => rfl) hc_ ?_
          refine iq_G_go (k := 8) (σ' := (264, [some (.ref 76), some (.int x1), some (.int x2), some (.int x3), some (.int w13.1), some (.int x1), some (.int x2), some (.int (-1 : Int32)), some (.int (0 : Int32)), none], [], (iq_sh l, w13.2, J, X))) (fun _ => rfl) ?_
          obtain ⟨w18, hw18, h⟩ := iq_bnd h
          refine iq_G_fg (L := [some (.ref 76), none, none, some (.int x3), some (.int w13.1), some (.int x1), some (.int x2), some (.int (-1 : Int32)), some (.int (0 : Int32)), none]) (And.intro rfl (And.intro rfl (And.intro rfl (And.intro rfl (And.intro rfl (And.intro rfl (And.intro rfl trivial))))))) ?_
          refine zM_costs_l264_ok l x3 w13.1 w13.2 J X hw18 _ ?_
          show iq_Gg 2 280 (370, [none, none, none, none, none, none, none, some (.int w18), none, none], [], (iq_sh l, w13.2, J, X)) _
          refine iq_G_go (k := 1) (σ' := (372, [none, none, none, none, none, none, none, some (.int w18), none, none], [.int w18], (iq_sh l, w13.2, J, X))) (fun _ => rfl) ?_
          cases h
          exact iq_G_ret (fun _ => rfl)
        · refine iq_G_neg (c := x3 < w13.1) (σ1 := (250, [some (.ref 76), some (.int x1), some (.int x2), some (.int x3), some (.int w13.1), none, none, none, none, none], [], (iq_sh l, w13.2, J, X))) (fun _ => rfl) hc_ ?_
          refine iq_G_go (k := 1) (σ' := (251, [some (.ref 76), some (.int x1), some (.int x2), some (.int x3), some (.int w13.1), none, none, none, none, none], [.int (-1 : Int32)], (iq_sh l, w13.2, J, X))) (fun _ => rfl) ?_
          cases h
          exact iq_G_ret (fun _ => rfl)
      · refine iq_G_neg (c := ¬ x3 = (-1 : Int32)) (σ1 := (241, [some (.ref 76), some (.int x1), some (.int x2), some (.int x3), some (.int w13.1), none, none, none, none, none], [], (iq_sh l, w13.2, J, X))) (fun _ => rfl) hc_ ?_
        refine iq_G_go (k := 1) (σ' := (243, [some (.ref 76), some (.int x1), some (.int x2), some (.int x3), some (.int w13.1), none, none, none, none, none], [.int w13.1], (iq_sh l, w13.2, J, X))) (fun _ => rfl) ?_
        cases h
        exact iq_G_ret (fun _ => rfl)
    · refine iq_G_neg (c := ¬ q5.1 = 0) (σ1 := (46, [some (.ref 76), some (.int x1), some (.int x2), some (.int x3), none, none, none, none, none, none], [], (iq_sh l, q5.2, J, X))) (fun _ => rfl) hc_ ?_
      refine iq_G_go (k := 1) (σ' := (47, [some (.ref 76), some (.int x1), some (.int x2), some (.int x3), none, none, none, none, none, none], [.int (0 : Int32)], (iq_sh l, q5.2, J, X))) (fun _ => rfl) ?_
      cases h
      exact iq_G_ret (fun _ => rfl)
set_option maxRecDepth 100000 in
theorem zM_costs_ok (l : Nat)  (x1 : Int32) (x2 : Int32) (x3 : Int32) (I : iq_I) (J : iq_J) (X : iq_X) {q : Int32 × iq_I} (h : zM_costs x1 x2 x3 I = some q) : iq_Cc 3 280 [.ref 76, .int x1, .int x2, .int x3] (iq_sh l, I, J, X) (.inl (some (.int q.1)), (iq_sh l, q.2, J, X)) := by
  refine iq_Cc_of (L := [some (.ref 76), some (.int x1), some (.int x2), some (.int x3), none, none, none, none, none, none]) rfl rfl ?_
  unfold zM_costs at h
  refine iq_G_go (k := 2) (σ' := (2, [some (.ref 76), some (.int x1), some (.int x2), some (.int x3), none, none, none, none, none, none], [.int (0 : Int32), .ref 76], (iq_sh l, I, J, X))) (fun _ => rfl) ?_
  refine iq_G_go (k := 1) (σ' := (5, [some (.ref 76), some (.int x1), some (.int x2), some (.int x3), none, none, none, none, none, none], [], (iq_sh l, (iq_upI I 76 0 (0 : Int32)), J, X))) (fun _ => rfl) ?_
  obtain ⟨I1, eI1, h⟩ := ir_letG h
  rw [← eI1]
  clear eI1
  refine iq_G_go (k := 2) (σ' := (7, [some (.ref 76), some (.int x1), some (.int x2), some (.int x3), none, none, none, none, none, none], [.int x1, .ref 76], (iq_sh l, I1, J, X))) (fun _ => rfl) ?_
  obtain ⟨q2, hq2, h⟩ := iq_bnd h
  refine iq_G_call (σ' := (10, [some (.ref 76), some (.int x1), some (.int x2), some (.int x3), none, none, none, none, none, none], [.int q2.1], (iq_sh l, q2.2, J, X))) (fun _ => rfl) (zM_isState_ok l x1 I1 J X hq2) rfl rfl ?_
  rcases iq_ite h with ⟨hc_, h⟩ | ⟨hc_, h⟩
  · refine iq_G_pos (c := q2.1 = 0) (σ1 := (46, [some (.ref 76), some (.int x1), some (.int x2), some (.int x3), none, none, none, none, none, none], [], (iq_sh l, q2.2, J, X))) (fun _ => rfl) hc_ ?_
    refine iq_G_go (k := 1) (σ' := (47, [some (.ref 76), some (.int x1), some (.int x2), some (.int x3), none, none, none, none, none, none], [.int (0 : Int32)], (iq_sh l, q2.2, J, X))) (fun _ => rfl) ?_
    cases h
    exact iq_G_ret (fun _ => rfl)
  · refine iq_G_neg (c := q2.1 = 0) (σ1 := (13, [some (.ref 76), some (.int x1), some (.int x2), some (.int x3), none, none, none, none, none, none], [], (iq_sh l, q2.2, J, X))) (fun _ => rfl) hc_ ?_
    refine iq_G_go (k := 3) (σ' := (16, [some (.ref 76), some (.int x1), some (.int x2), some (.int x3), none, none, none, none, none, none], [.int (-1 : Int32), .int x3, .ref 76], (iq_sh l, q2.2, J, X))) (fun _ => rfl) ?_
    rcases iq_ite h with ⟨hc_, h⟩ | ⟨hc_, h⟩
    · refine iq_G_pos (c := x3 < (-1 : Int32)) (σ1 := (23, [some (.ref 76), some (.int x1), some (.int x2), some (.int x3), none, none, none, none, none, none], [.ref 76], (iq_sh l, q2.2, J, X))) (fun _ => rfl) hc_ ?_
      refine iq_G_go (k := 1) (σ' := (24, [some (.ref 76), some (.int x1), some (.int x2), some (.int x3), none, none, none, none, none, none], [.int (0 : Int32), .ref 76], (iq_sh l, q2.2, J, X))) (fun _ => rfl) ?_
      exact iq_G_fg (L := [some (.ref 76), some (.int x1), some (.int x2), some (.int x3), none, none, none, none, none, none]) (And.intro rfl (And.intro rfl (And.intro rfl (And.intro rfl trivial)))) (zM_costs_24_ok l x1 x2 x3 (0 : Int32) q2.2 J X  h )
    · refine iq_G_neg (c := x3 < (-1 : Int32)) (σ1 := (19, [some (.ref 76), some (.int x1), some (.int x2), some (.int x3), none, none, none, none, none, none], [.ref 76], (iq_sh l, q2.2, J, X))) (fun _ => rfl) hc_ ?_
      refine iq_G_go (k := 2) (σ' := (24, [some (.ref 76), some (.int x1), some (.int x2), some (.int x3), none, none, none, none, none, none], [.int (1 : Int32), .ref 76], (iq_sh l, q2.2, J, X))) (fun _ => rfl) ?_
      exact iq_G_fg (L := [some (.ref 76), some (.int x1), some (.int x2), some (.int x3), none, none, none, none, none, none]) (And.intro rfl (And.intro rfl (And.intro rfl (And.intro rfl trivial)))) (zM_costs_24_ok l x1 x2 x3 (1 : Int32) q2.2 J X  h )
set_option maxRecDepth 100000 in
theorem zP_playOut_l17_bok (l : Nat)   (J : iq_J) (X : iq_X) (x1 : Int32) (I : iq_I) {q : (Int32 × iq_I) ⊕ (iq_I)} (h : zP_playOut_l17_b  x1 I = some q) (r : iq_R × iq_M) (hc : ∀ v, q = .inl v → iq_Gg 2 68 (17, [some (.ref 63), some (.int v.1)], [], (iq_sh l, v.2, J, X)) r) (hx : ∀ w, q = .inr w → iq_Gg 2 68 (75, [none, none], [], (iq_sh l, w, J, X)) r) : iq_Gg 2 68 (17, [some (.ref 63), some (.int x1)], [], (iq_sh l, I, J, X)) r := by
  unfold zP_playOut_l17_b at h
  refine iq_G_go (k := 4) (σ' := (25, [some (.ref 63), some (.int x1)], [.int (I 4 0), .int x1], (iq_sh l, I, J, X))) (fun _ => rfl) ?_
  rcases iq_ite h with ⟨hc_, h⟩ | ⟨hc_, h⟩
  · refine iq_G_pos (c := (I 4 0) < x1) (σ1 := (75, [some (.ref 63), some (.int x1)], [], (iq_sh l, I, J, X))) (fun _ => rfl) hc_ ?_
    cases h
    exact iq_G_fg (L := [none, none]) trivial (hx I rfl)
  · refine iq_G_neg (c := (I 4 0) < x1) (σ1 := (28, [some (.ref 63), some (.int x1)], [], (iq_sh l, I, J, X))) (fun _ => rfl) hc_ ?_
    refine iq_G_go (k := 2) (σ' := (30, [some (.ref 63), some (.int x1)], [.ref 63, .ref 63], (iq_sh l, I, J, X))) (fun _ => rfl) ?_
    obtain ⟨q4, hq4, h⟩ := iq_bnd h
    refine iq_G_call (σ' := (33, [some (.ref 63), some (.int x1)], [.int q4, .ref 63], (iq_sh l, I, J, X))) (fun _ => rfl) (zP_allStates_ok l  I J X hq4) rfl rfl ?_
    refine iq_G_go (k := 2) (σ' := (35, [some (.ref 63), some (.int x1)], [.ref 63, .ref 63, .int q4, .ref 63], (iq_sh l, I, J, X))) (fun _ => rfl) ?_
    obtain ⟨q5, hq5, h⟩ := iq_bnd h
    refine iq_G_call (σ' := (38, [some (.ref 63), some (.int x1)], [.int q5, .ref 63, .int q4, .ref 63], (iq_sh l, I, J, X))) (fun _ => rfl) (zP_allStates_ok l  I J X hq5) rfl rfl ?_
    refine iq_G_go (k := 4) (σ' := (44, [some (.ref 63), some (.int x1)], [.int ((I 63 7) ^^^ (-1 : Int32)), .int q5, .ref 63, .int q4, .ref 63], (iq_sh l, I, J, X))) (fun _ => rfl) ?_
    obtain ⟨q6, hq6, h⟩ := iq_bnd h
    refine iq_G_call (σ' := (47, [some (.ref 63), some (.int x1)], [.int q6, .int q4, .ref 63], (iq_sh l, I, J, X))) (fun _ => rfl) (zP_leadingInto_ok l q5 ((I 63 7) ^^^ (-1 : Int32)) I J X hq6) rfl rfl ?_
    refine iq_G_go (k := 3) (σ' := (50, [some (.ref 63), some (.int x1)], [.int (q4 &&& (q6 ^^^ (-1 : Int32))), .ref 63], (iq_sh l, I, J, X))) (fun _ => rfl) ?_
    refine iq_G_go (k := 1) (σ' := (53, [some (.ref 63), some (.int x1)], [], (iq_sh l, (iq_upI I 63 6 (q4 &&& (q6 ^^^ (-1 : Int32)))), J, X))) (fun _ => rfl) ?_
    obtain ⟨I7, eI7, h⟩ := ir_letG h
    rw [← eI7]
    clear eI7
    refine iq_G_go (k := 3) (σ' := (56, [some (.ref 63), some (.int x1)], [.ref 63, .ref 63, .ref 63], (iq_sh l, I7, J, X))) (fun _ => rfl) ?_
    obtain ⟨q8, hq8, h⟩ := iq_bnd h
    refine iq_G_call (σ' := (59, [some (.ref 63), some (.int x1)], [.int q8, .ref 63, .ref 63], (iq_sh l, I7, J, X))) (fun _ => rfl) (zP_allStates_ok l  I7 J X hq8) rfl rfl ?_
    refine iq_G_go (k := 2) (σ' := (63, [some (.ref 63), some (.int x1)], [.int (I7 63 6), .int q8, .ref 63, .ref 63], (iq_sh l, I7, J, X))) (fun _ => rfl) ?_
    obtain ⟨q9, hq9, h⟩ := iq_bnd h
    refine iq_G_call (σ' := (66, [some (.ref 63), some (.int x1)], [.int q9, .ref 63], (iq_sh l, I7, J, X))) (fun _ => rfl) (zP_leadingInto_ok l q8 (I7 63 6) I7 J X hq9) rfl rfl ?_
    refine iq_G_go (k := 1) (σ' := (69, [some (.ref 63), some (.int x1)], [], (iq_sh l, (iq_upI I7 63 7 q9), J, X))) (fun _ => rfl) ?_
    obtain ⟨I10, eI10, h⟩ := ir_letG h
    rw [← eI10]
    clear eI10
    refine iq_G_go (k := 2) (σ' := (17, [some (.ref 63), some (.int (x1 + (1 : Int32)))], [], (iq_sh l, I10, J, X))) (fun _ => rfl) ?_
    cases h
    exact iq_G_fg (L := [some (.ref 63), some (.int (x1 + (1 : Int32)))]) (And.intro rfl (And.intro rfl trivial)) (hc ((x1 + (1 : Int32)), I10) rfl)
set_option maxRecDepth 100000 in
theorem zP_playOut_l17_ok (l : Nat)   (J : iq_J) (X : iq_X) {n : Nat} {v : Int32 × iq_I} {w : iq_I} (h : zP_playOut_l17  n v = some w) (r : iq_R × iq_M) (hq : iq_Gg 2 68 (75, [none, none], [], (iq_sh l, w, J, X)) r) : iq_Gg 2 68 (17, [some (.ref 63), some (.int v.1)], [], (iq_sh l, v.2, J, X)) r :=
  iq_lp_ok (σ := fun v => (17, [some (.ref 63), some (.int v.1)], [], (iq_sh l, v.2, J, X))) (Q := fun w r => iq_Gg 2 68 (75, [none, none], [], (iq_sh l, w, J, X)) r) (fun v q hv r h1 h2 => zP_playOut_l17_bok l J X v.1 v.2 hv r h1 h2) h r hq
set_option maxRecDepth 100000 in
theorem zP_playOut_ok (l : Nat)   (I : iq_I) (J : iq_J) (X : iq_X) {q : iq_I} (h : zP_playOut I = some q) : iq_Cc 3 68 [.ref 63] (iq_sh l, I, J, X) (.inl none, (iq_sh l, q, J, X)) := by
  refine iq_Cc_of (L := [some (.ref 63), none]) rfl rfl ?_
  unfold zP_playOut at h
  refine iq_G_go (k := 2) (σ' := (2, [some (.ref 63), none], [.int (0 : Int32), .ref 63], (iq_sh l, I, J, X))) (fun _ => rfl) ?_
  obtain ⟨q1, hq1, h⟩ := iq_bnd h
  refine iq_G_call (σ' := (5, [some (.ref 63), none], [], (iq_sh l, q1, J, X))) (fun _ => rfl) (zP_lookBehind_ok l (0 : Int32) I J X hq1) rfl rfl ?_
  refine iq_G_go (k := 2) (σ' := (7, [some (.ref 63), none], [.int (0 : Int32), .ref 63], (iq_sh l, q1, J, X))) (fun _ => rfl) ?_
  refine iq_G_go (k := 1) (σ' := (10, [some (.ref 63), none], [], (iq_sh l, (iq_upI q1 63 6 (0 : Int32)), J, X))) (fun _ => rfl) ?_
  obtain ⟨I2, eI2, h⟩ := ir_letG h
  rw [← eI2]
  clear eI2
  refine iq_G_go (k := 2) (σ' := (12, [some (.ref 63), none], [.int (0 : Int32), .ref 63], (iq_sh l, I2, J, X))) (fun _ => rfl) ?_
  refine iq_G_go (k := 1) (σ' := (15, [some (.ref 63), none], [], (iq_sh l, (iq_upI I2 63 7 (0 : Int32)), J, X))) (fun _ => rfl) ?_
  obtain ⟨I3, eI3, h⟩ := ir_letG h
  rw [← eI3]
  clear eI3
  refine iq_G_go (k := 2) (σ' := (17, [some (.ref 63), some (.int (0 : Int32))], [], (iq_sh l, I3, J, X))) (fun _ => rfl) ?_
  obtain ⟨w11, hw11, h⟩ := iq_bnd h
  refine iq_G_fg (L := [some (.ref 63), some (.int (0 : Int32))]) (And.intro rfl (And.intro rfl trivial)) ?_
  refine zP_playOut_l17_ok l J X hw11 _ ?_
  show iq_Gg 2 68 (75, [none, none], [], (iq_sh l, w11, J, X)) _
  cases h
  exact iq_G_ret (fun _ => rfl)
set_option maxRecDepth 100000 in
theorem zP_inTurn_ok (l : Nat)  (x1 : Int32) (I : iq_I) (J : iq_J) (X : iq_X) {q : Int32 × iq_I} (h : zP_inTurn x1 I = some q) : iq_Cc 4 69 [.ref 63, .int x1] (iq_sh l, I, J, X) (.inl (some (.int q.1)), (iq_sh l, q.2, J, X)) := by
  refine iq_Cc_of (L := [some (.ref 63), some (.int x1)]) rfl rfl ?_
  unfold zP_inTurn at h
  refine iq_G_go (k := 1) (σ' := (1, [some (.ref 63), some (.int x1)], [.ref 63], (iq_sh l, I, J, X))) (fun _ => rfl) ?_
  obtain ⟨q1, hq1, h⟩ := iq_bnd h
  refine iq_G_call (σ' := (4, [some (.ref 63), some (.int x1)], [], (iq_sh l, q1, J, X))) (fun _ => rfl) (zP_playOut_ok l  I J X hq1) rfl rfl ?_
  refine iq_G_go (k := 6) (σ' := (12, [some (.ref 63), some (.int x1)], [.int (((q1 63 7) >>> (x1 &&& 31)) &&& (1 : Int32))], (iq_sh l, q1, J, X))) (fun _ => rfl) ?_
  rcases iq_ite h with ⟨hc_, h⟩ | ⟨hc_, h⟩
  · refine iq_G_pos (c := (((q1 63 7) >>> (x1 &&& 31)) &&& (1 : Int32)) = 0) (σ1 := (17, [some (.ref 63), some (.int x1)], [], (iq_sh l, q1, J, X))) (fun _ => rfl) hc_ ?_
    refine iq_G_go (k := 6) (σ' := (25, [some (.ref 63), some (.int x1)], [.int (((q1 63 6) >>> (x1 &&& 31)) &&& (1 : Int32))], (iq_sh l, q1, J, X))) (fun _ => rfl) ?_
    rcases iq_ite h with ⟨hc_, h⟩ | ⟨hc_, h⟩
    · refine iq_G_pos (c := (((q1 63 6) >>> (x1 &&& 31)) &&& (1 : Int32)) = 0) (σ1 := (32, [some (.ref 63), some (.int x1)], [], (iq_sh l, q1, J, X))) (fun _ => rfl) hc_ ?_
      refine iq_G_go (k := 1) (σ' := (33, [some (.ref 63), some (.int x1)], [.int (0 : Int32)], (iq_sh l, q1, J, X))) (fun _ => rfl) ?_
      cases h
      exact iq_G_ret (fun _ => rfl)
    · refine iq_G_neg (c := (((q1 63 6) >>> (x1 &&& 31)) &&& (1 : Int32)) = 0) (σ1 := (28, [some (.ref 63), some (.int x1)], [], (iq_sh l, q1, J, X))) (fun _ => rfl) hc_ ?_
      refine iq_G_go (k := 2) (σ' := (33, [some (.ref 63), some (.int x1)], [.int (2 : Int32)], (iq_sh l, q1, J, X))) (fun _ => rfl) ?_
      cases h
      exact iq_G_ret (fun _ => rfl)
  · refine iq_G_neg (c := (((q1 63 7) >>> (x1 &&& 31)) &&& (1 : Int32)) = 0) (σ1 := (15, [some (.ref 63), some (.int x1)], [], (iq_sh l, q1, J, X))) (fun _ => rfl) hc_ ?_
    refine iq_G_go (k := 1) (σ' := (16, [some (.ref 63), some (.int x1)], [.int (1 : Int32)], (iq_sh l, q1, J, X))) (fun _ => rfl) ?_
    cases h
    exact iq_G_ret (fun _ => rfl)
set_option maxRecDepth 100000 in
theorem zP_winningWord_l6_bok (l : Nat)  (x1 : Int32) (I : iq_I) (J : iq_J) (X : iq_X) (x2 : Int32)  {q : (Int32) ⊕ ((Unit) ⊕ (Int32 × iq_I))} (h : zP_winningWord_l6_b x1 I x2 = some q) (r : iq_R × iq_M) (hc : ∀ v, q = .inl v → iq_Gg 3 70 (6, [some (.ref 63), some (.int x1), some (.int v), none], [], (iq_sh l, I, J, X)) r) (hx : ∀ w, q = .inr w → (∀ a, w = .inl a → iq_Gg 3 70 (51, [none, none, none, none], [], (iq_sh l, I, J, X)) r) ∧ (∀ b, w = .inr b → r = (.inl (some (.int b.1)), (iq_sh l, b.2, J, X)))) : iq_Gg 3 70 (6, [some (.ref 63), some (.int x1), some (.int x2), none], [], (iq_sh l, I, J, X)) r := by
  unfold zP_winningWord_l6_b at h
  refine iq_G_go (k := 4) (σ' := (14, [some (.ref 63), some (.int x1), some (.int x2), none], [.int (I 4 2), .int x2], (iq_sh l, I, J, X))) (fun _ => rfl) ?_
  rcases iq_ite h with ⟨hc_, h⟩ | ⟨hc_, h⟩
  · refine iq_G_pos (c := (I 4 2) ≤ x2) (σ1 := (51, [some (.ref 63), some (.int x1), some (.int x2), none], [], (iq_sh l, I, J, X))) (fun _ => rfl) hc_ ?_
    cases h
    exact iq_G_fg (L := [none, none, none, none]) trivial ((hx (.inl ()) rfl).1 () rfl)
  · refine iq_G_neg (c := (I 4 2) ≤ x2) (σ1 := (17, [some (.ref 63), some (.int x1), some (.int x2), none], [], (iq_sh l, I, J, X))) (fun _ => rfl) hc_ ?_
    refine iq_G_go (k := 4) (σ' := (23, [some (.ref 63), some (.int x1), some (.int x2), none], [.int x2, .int x1, .ref 4], (iq_sh l, I, J, X))) (fun _ => rfl) ?_
    obtain ⟨q2, hq2, h⟩ := iq_bnd h
    refine iq_G_call (σ' := (26, [some (.ref 63), some (.int x1), some (.int x2), none], [.int q2], (iq_sh l, I, J, X))) (fun _ => rfl) (zU_leadsTo_4_ok l x1 x2 I J X hq2) rfl rfl ?_
    refine iq_G_go (k := 3) (σ' := (29, [some (.ref 63), some (.int x1), some (.int x2), some (.int q2)], [.int (-1 : Int32), .int q2], (iq_sh l, I, J, X))) (fun _ => rfl) ?_
    rcases iq_ite h with ⟨hc_, h⟩ | ⟨hc_, h⟩
    · refine iq_G_pos (c := q2 = (-1 : Int32)) (σ1 := (45, [some (.ref 63), some (.int x1), some (.int x2), some (.int q2)], [], (iq_sh l, I, J, X))) (fun _ => rfl) hc_ ?_
      refine iq_G_go (k := 2) (σ' := (6, [some (.ref 63), some (.int x1), some (.int (x2 + (1 : Int32))), some (.int q2)], [], (iq_sh l, I, J, X))) (fun _ => rfl) ?_
      cases h
      exact iq_G_fg (L := [some (.ref 63), some (.int x1), some (.int (x2 + (1 : Int32))), none]) (And.intro rfl (And.intro rfl (And.intro rfl trivial))) (hc (x2 + (1 : Int32)) rfl)
    · refine iq_G_neg (c := q2 = (-1 : Int32)) (σ1 := (32, [some (.ref 63), some (.int x1), some (.int x2), some (.int q2)], [], (iq_sh l, I, J, X))) (fun _ => rfl) hc_ ?_
      refine iq_G_go (k := 6) (σ' := (40, [some (.ref 63), some (.int x1), some (.int x2), some (.int q2)], [.int (((I 63 6) >>> (q2 &&& 31)) &&& (1 : Int32))], (iq_sh l, I, J, X))) (fun _ => rfl) ?_
      rcases iq_ite h with ⟨hc_, h⟩ | ⟨hc_, h⟩
      · refine iq_G_pos (c := (((I 63 6) >>> (q2 &&& 31)) &&& (1 : Int32)) = 0) (σ1 := (45, [some (.ref 63), some (.int x1), some (.int x2), some (.int q2)], [], (iq_sh l, I, J, X))) (fun _ => rfl) hc_ ?_
        refine iq_G_go (k := 2) (σ' := (6, [some (.ref 63), some (.int x1), some (.int (x2 + (1 : Int32))), some (.int q2)], [], (iq_sh l, I, J, X))) (fun _ => rfl) ?_
        cases h
        exact iq_G_fg (L := [some (.ref 63), some (.int x1), some (.int (x2 + (1 : Int32))), none]) (And.intro rfl (And.intro rfl (And.intro rfl trivial))) (hc (x2 + (1 : Int32)) rfl)
      · refine iq_G_neg (c := (((I 63 6) >>> (q2 &&& 31)) &&& (1 : Int32)) = 0) (σ1 := (43, [some (.ref 63), some (.int x1), some (.int x2), some (.int q2)], [], (iq_sh l, I, J, X))) (fun _ => rfl) hc_ ?_
        refine iq_G_go (k := 1) (σ' := (44, [some (.ref 63), some (.int x1), some (.int x2), some (.int q2)], [.int x2], (iq_sh l, I, J, X))) (fun _ => rfl) ?_
        cases h
        obtain rfl := (hx _ rfl).2 _ rfl
        exact iq_G_ret (fun _ => rfl)
set_option maxRecDepth 100000 in
theorem zP_winningWord_l6_ok (l : Nat)  (x1 : Int32) (I : iq_I) (J : iq_J) (X : iq_X) {n : Nat} {v : Int32} {w : (Unit) ⊕ (Int32 × iq_I)} (h : zP_winningWord_l6 x1 I n v = some w) (r : iq_R × iq_M) (hq : (∀ a, w = .inl a → iq_Gg 3 70 (51, [none, none, none, none], [], (iq_sh l, I, J, X)) r) ∧ (∀ b, w = .inr b → r = (.inl (some (.int b.1)), (iq_sh l, b.2, J, X)))) : iq_Gg 3 70 (6, [some (.ref 63), some (.int x1), some (.int v), none], [], (iq_sh l, I, J, X)) r :=
  iq_lp_ok (σ := fun v => (6, [some (.ref 63), some (.int x1), some (.int v), none], [], (iq_sh l, I, J, X))) (Q := fun w r => (∀ a, w = .inl a → iq_Gg 3 70 (51, [none, none, none, none], [], (iq_sh l, I, J, X)) r) ∧ (∀ b, w = .inr b → r = (.inl (some (.int b.1)), (iq_sh l, b.2, J, X)))) (fun v q hv r h1 h2 => zP_winningWord_l6_bok l x1 I J X v hv r h1 h2) h r hq
set_option maxRecDepth 100000 in
theorem zP_winningWord_ok (l : Nat)  (x1 : Int32) (I : iq_I) (J : iq_J) (X : iq_X) {q : Int32 × iq_I} (h : zP_winningWord x1 I = some q) : iq_Cc 4 70 [.ref 63, .int x1] (iq_sh l, I, J, X) (.inl (some (.int q.1)), (iq_sh l, q.2, J, X)) := by
  refine iq_Cc_of (L := [some (.ref 63), some (.int x1), none, none]) rfl rfl ?_
  unfold zP_winningWord at h
  refine iq_G_go (k := 1) (σ' := (1, [some (.ref 63), some (.int x1), none, none], [.ref 63], (iq_sh l, I, J, X))) (fun _ => rfl) ?_
  obtain ⟨q1, hq1, h⟩ := iq_bnd h
  refine iq_G_call (σ' := (4, [some (.ref 63), some (.int x1), none, none], [], (iq_sh l, q1, J, X))) (fun _ => rfl) (zP_playOut_ok l  I J X hq1) rfl rfl ?_
  refine iq_G_go (k := 2) (σ' := (6, [some (.ref 63), some (.int x1), some (.int (0 : Int32)), none], [], (iq_sh l, q1, J, X))) (fun _ => rfl) ?_
  obtain ⟨w3, hw3, h⟩ := iq_bnd h
  refine iq_G_fg (L := [some (.ref 63), some (.int x1), some (.int (0 : Int32)), none]) (And.intro rfl (And.intro rfl (And.intro rfl trivial))) ?_
  refine zP_winningWord_l6_ok l x1 q1 J X hw3 _ ⟨fun a4 ha => ?_, fun b5 hb => ?_⟩
  · subst ha
    replace h := ir_smL h
    show iq_Gg 3 70 (51, [none, none, none, none], [], (iq_sh l, q1, J, X)) _
    refine iq_G_go (k := 1) (σ' := (52, [none, none, none, none], [.int (-1 : Int32)], (iq_sh l, q1, J, X))) (fun _ => rfl) ?_
    cases h
    exact iq_G_ret (fun _ => rfl)
  · subst hb
    replace h := ir_smR h
    cases h
    rfl
set_option maxRecDepth 100000 in
theorem zO_turn_ok (l : Nat)  (x1 : Int32) (x2 : Int32) (I : iq_I) (J : iq_J) (X : iq_X) {q : (Int32 ⊕ Nat) × iq_I × iq_X} (h : zO_turn x1 x2 I X = some q) : iq_Cc 5 167 [.ref 1, .int x1, .int x2] (iq_sh l, I, J, X) ((ir_Ri q.1), (iq_sh l, q.2.1, J, q.2.2)) := by
  refine iq_Cc_of (L := [some (.ref 1), some (.int x1), some (.int x2)]) rfl rfl ?_
  unfold zO_turn at h
  refine iq_G_go (k := 2) (σ' := (2, [some (.ref 1), some (.int x1), some (.int x2)], [.int x1, .ref 1], (iq_sh l, I, J, X))) (fun _ => rfl) ?_
  obtain ⟨q1, hq1, h⟩ := iq_bnd h
  have hC := (zO_needState_ok l x1 I J X hq1)
  rcases iq_smc h with ⟨a2, ha, h⟩ | ⟨k3, ha, h⟩
  · rw [ha] at hC
    refine iq_G_call (σ' := (5, [some (.ref 1), some (.int x1), some (.int x2)], [], (iq_sh l, I, J, q1.2))) (fun _ => rfl) hC rfl rfl ?_
    refine iq_G_go (k := 2) (σ' := (7, [some (.ref 1), some (.int x1), some (.int x2)], [.int x2, .ref 1], (iq_sh l, I, J, q1.2))) (fun _ => rfl) ?_
    obtain ⟨q4, hq4, h⟩ := iq_bnd h
    have hC := (zO_needOneOfTwo_ok l x2 I J q1.2 hq4)
    rcases iq_smc h with ⟨a5, ha, h⟩ | ⟨k6, ha, h⟩
    · rw [ha] at hC
      refine iq_G_call (σ' := (10, [some (.ref 1), some (.int x1), some (.int x2)], [], (iq_sh l, I, J, q4.2))) (fun _ => rfl) hC rfl rfl ?_
      refine iq_G_go (k := 1) (σ' := (11, [some (.ref 1), some (.int x1), some (.int x2)], [.int x2], (iq_sh l, I, J, q4.2))) (fun _ => rfl) ?_
      rcases iq_ite h with ⟨hc_, h⟩ | ⟨hc_, h⟩
      · refine iq_G_pos (c := ¬ x2 = 0) (σ1 := (25, [some (.ref 1), some (.int x1), some (.int x2)], [], (iq_sh l, I, J, q4.2))) (fun _ => rfl) hc_ ?_
        refine iq_G_go (k := 3) (σ' := (30, [some (.ref 1), some (.int x1), some (.int x2)], [.int x1, .ref 63], (iq_sh l, I, J, q4.2))) (fun _ => rfl) ?_
        obtain ⟨q7, hq7, h⟩ := iq_bnd h
        refine iq_G_call (σ' := (33, [some (.ref 1), some (.int x1), some (.int x2)], [.int q7.1], (iq_sh l, q7.2, J, q4.2))) (fun _ => rfl) (zP_winningWord_ok l x1 I J q4.2 hq7) rfl rfl ?_
        cases h
        exact iq_G_ret (fun _ => rfl)
      · refine iq_G_neg (c := ¬ x2 = 0) (σ1 := (14, [some (.ref 1), some (.int x1), some (.int x2)], [], (iq_sh l, I, J, q4.2))) (fun _ => rfl) hc_ ?_
        refine iq_G_go (k := 3) (σ' := (19, [some (.ref 1), some (.int x1), some (.int x2)], [.int x1, .ref 63], (iq_sh l, I, J, q4.2))) (fun _ => rfl) ?_
        obtain ⟨q8, hq8, h⟩ := iq_bnd h
        refine iq_G_call (σ' := (22, [some (.ref 1), some (.int x1), some (.int x2)], [.int q8.1], (iq_sh l, q8.2, J, q4.2))) (fun _ => rfl) (zP_inTurn_ok l x1 I J q4.2 hq8) rfl rfl ?_
        refine iq_G_go (k := 1) (σ' := (33, [some (.ref 1), some (.int x1), some (.int x2)], [.int q8.1], (iq_sh l, q8.2, J, q4.2))) (fun _ => rfl) ?_
        cases h
        exact iq_G_ret (fun _ => rfl)
    · rw [ha] at hC
      cases h
      exact iq_G_callx (fun _ => rfl) hC rfl rfl
  · rw [ha] at hC
    cases h
    exact iq_G_callx (fun _ => rfl) hC rfl rfl
set_option maxRecDepth 100000 in
theorem zL_turn_ok (l : Nat)  (x1 : Int32) (x2 : Int32) (I : iq_I) (J : iq_J) (X : iq_X) {q : Int32 × iq_I × iq_J × iq_X} (h : zL_turn x1 x2 I J X = some q) : iq_Cc 6 339 [.ref 1, .int x1, .int x2, .ref 114] (iq_sh l, I, J, X) (.inl (some (.int q.1)), (iq_sh l, q.2.1, q.2.2.1, q.2.2.2)) := by
  refine iq_Cc_of (L := [some (.ref 1), some (.int x1), some (.int x2), some (.ref 114), none]) rfl rfl ?_
  unfold zL_turn at h
  refine iq_G_go (k := 5) (σ' := (5, [some (.ref 1), some (.int x1), some (.int x2), some (.ref 114), none], [.int x2, .int x1, .ref 1, .int (0 : Int32), .ref 114], (iq_sh l, I, J, X))) (fun _ => rfl) ?_
  obtain ⟨q1, hq1, h⟩ := iq_bnd h
  have hC := (zO_turn_ok l x1 x2 I J X hq1)
  rcases iq_smc h with ⟨a2, ha, h⟩ | ⟨k3, ha, h⟩
  · rw [ha] at hC
    refine iq_G_call (σ' := (8, [some (.ref 1), some (.int x1), some (.int x2), some (.ref 114), none], [.int a2, .int (0 : Int32), .ref 114], (iq_sh l, q1.2.1, J, q1.2.2))) (fun _ => rfl) hC rfl rfl ?_
    refine iq_G_go (k := 1) (σ' := (9, [some (.ref 1), some (.int x1), some (.int x2), some (.ref 114), none], [.long (Int32.toInt64 a2), .int (0 : Int32), .ref 114], (iq_sh l, q1.2.1, J, q1.2.2))) (fun _ => rfl) ?_
    refine iq_G_go (k := 1) (σ' := (10, [some (.ref 1), some (.int x1), some (.int x2), some (.ref 114), none], [], (iq_sh l, q1.2.1, (iq_upJ J 114 0 (Int32.toInt64 a2)), q1.2.2))) (fun _ => rfl) ?_
    obtain ⟨J4, eJ4, h⟩ := ir_letG h
    rw [← eJ4]
    clear eJ4
    refine iq_G_go (k := 2) (σ' := (18, [some (.ref 1), some (.int x1), some (.int x2), some (.ref 114), none], [.int (0 : Int32)], (iq_sh l, q1.2.1, J4, q1.2.2))) (fun _ => rfl) ?_
    cases h
    exact iq_G_ret (fun _ => rfl)
  · rw [ha] at hC
    rcases iq_ite h with ⟨e, h⟩ | ⟨_, h⟩
    · subst e
      refine iq_G_call (σ' := (15, [some (.ref 1), some (.int x1), some (.int x2), some (.ref 114), none], [], (iq_sh l, q1.2.1, J, q1.2.2))) (fun _ => rfl) hC rfl rfl ?_
      refine iq_G_go (k := 1) (σ' := (16, [some (.ref 1), some (.int x1), some (.int x2), some (.ref 114), none], [.int (1 : Int32)], (iq_sh l, q1.2.1, J, q1.2.2))) (fun _ => rfl) ?_
      cases h
      exact iq_G_ret (fun _ => rfl)
    · obtain ⟨e, h⟩ := iq_itn h
      cases h
set_option maxRecDepth 100000 in
theorem zM_plays_l2_bok (l : Nat)   (J : iq_J) (X : iq_X) (x1 : Int32) (I : iq_I) {q : (Int32 × iq_I) ⊕ (iq_I)} (h : zM_plays_l2_b  x1 I = some q) (r : iq_R × iq_M) (hc : ∀ v, q = .inl v → iq_Gg 1 278 (2, [some (.ref 76), some (.int v.1), none, none, none, none], [], (iq_sh l, v.2, J, X)) r) (hx : ∀ w, q = .inr w → iq_Gg 1 278 (23, [some (.ref 76), none, none, none, none, none], [], (iq_sh l, w, J, X)) r) : iq_Gg 1 278 (2, [some (.ref 76), some (.int x1), none, none, none, none], [], (iq_sh l, I, J, X)) r := by
  unfold zM_plays_l2_b at h
  refine iq_G_go (k := 3) (σ' := (7, [some (.ref 76), some (.int x1), none, none, none, none], [.int (I 76 1), .int x1], (iq_sh l, I, J, X))) (fun _ => rfl) ?_
  rcases iq_ite h with ⟨hc_, h⟩ | ⟨hc_, h⟩
  · refine iq_G_pos (c := (I 76 1) ≤ x1) (σ1 := (23, [some (.ref 76), some (.int x1), none, none, none, none], [], (iq_sh l, I, J, X))) (fun _ => rfl) hc_ ?_
    cases h
    exact iq_G_fg (L := [some (.ref 76), none, none, none, none, none]) (And.intro rfl trivial) (hx I rfl)
  · refine iq_G_neg (c := (I 76 1) ≤ x1) (σ1 := (10, [some (.ref 76), some (.int x1), none, none, none, none], [], (iq_sh l, I, J, X))) (fun _ => rfl) hc_ ?_
    refine iq_G_go (k := 4) (σ' := (16, [some (.ref 76), some (.int x1), none, none, none, none], [.int (0 : Int32), .int x1, .ref 106], (iq_sh l, I, J, X))) (fun _ => rfl) ?_
    obtain ⟨hc_, h⟩ := iq_itn h
    refine iq_G_pos (c := iq_in x1 10) (σ1 := (17, [some (.ref 76), some (.int x1), none, none, none, none], [], (iq_sh l, (iq_upI I 106 (Int32.toNatClampNeg x1) (0 : Int32)), J, X))) (fun _ => rfl) hc_ ?_
    obtain ⟨I1, eI1, h⟩ := ir_letG h
    rw [← eI1]
    clear eI1
    refine iq_G_go (k := 2) (σ' := (2, [some (.ref 76), some (.int (x1 + (1 : Int32))), none, none, none, none], [], (iq_sh l, I1, J, X))) (fun _ => rfl) ?_
    cases h
    exact iq_G_fg (L := [some (.ref 76), some (.int (x1 + (1 : Int32))), none, none, none, none]) (And.intro rfl (And.intro rfl trivial)) (hc ((x1 + (1 : Int32)), I1) rfl)
set_option maxRecDepth 100000 in
theorem zM_plays_l2_ok (l : Nat)   (J : iq_J) (X : iq_X) {n : Nat} {v : Int32 × iq_I} {w : iq_I} (h : zM_plays_l2  n v = some w) (r : iq_R × iq_M) (hq : iq_Gg 1 278 (23, [some (.ref 76), none, none, none, none, none], [], (iq_sh l, w, J, X)) r) : iq_Gg 1 278 (2, [some (.ref 76), some (.int v.1), none, none, none, none], [], (iq_sh l, v.2, J, X)) r :=
  iq_lp_ok (σ := fun v => (2, [some (.ref 76), some (.int v.1), none, none, none, none], [], (iq_sh l, v.2, J, X))) (Q := fun w r => iq_Gg 1 278 (23, [some (.ref 76), none, none, none, none, none], [], (iq_sh l, w, J, X)) r) (fun v q hv r h1 h2 => zM_plays_l2_bok l J X v.1 v.2 hv r h1 h2) h r hq
set_option maxRecDepth 100000 in
theorem zM_plays_109_ok (l : Nat)  (x1 : Int32) (x2 : Int32) (x4 : Int32) (x5 : Int32) (s0 : Int32) (I : iq_I) (J : iq_J) (X : iq_X)  {q : (Int32 × Int32 × Int32) ⊕ (Int32 × Int32)} (h : zM_plays_109 x1 x2 x4 x5 s0 I = some q) (r : iq_R × iq_M) (hc : ∀ v, q = .inl v → iq_Gg 1 278 (61, [some (.ref 76), some (.int x1), some (.int x2), some (.int v.1), some (.int v.2.1), some (.int v.2.2)], [], (iq_sh l, I, J, X)) r) (hx : ∀ w, q = .inr w → iq_Gg 1 278 (144, [some (.ref 76), some (.int x1), some (.int x2), some (.int w.1), some (.int w.2), none], [], (iq_sh l, I, J, X)) r) : iq_Gg 1 278 (109, [some (.ref 76), some (.int x1), some (.int x2), none, some (.int x4), some (.int x5)], [.int s0], (iq_sh l, I, J, X)) r := by
  unfold zM_plays_109 at h
  refine iq_G_go (k := 2) (σ' := (112, [some (.ref 76), some (.int x1), some (.int x2), some (.int s0), some (.int x4), some (.int x5)], [.int x4], (iq_sh l, I, J, X))) (fun _ => rfl) ?_
  rcases iq_ite h with ⟨hc_, h⟩ | ⟨hc_, h⟩
  · refine iq_G_pos (c := ¬ x4 = 0) (σ1 := (131, [some (.ref 76), some (.int x1), some (.int x2), some (.int s0), some (.int x4), some (.int x5)], [], (iq_sh l, I, J, X))) (fun _ => rfl) hc_ ?_
    refine iq_G_go (k := 5) (σ' := (61, [some (.ref 76), some (.int x1), some (.int x2), some (.int s0), some (.int (1 : Int32)), some (.int (x5 + (1 : Int32)))], [], (iq_sh l, I, J, X))) (fun _ => rfl) ?_
    cases h
    exact iq_G_fg (L := [some (.ref 76), some (.int x1), some (.int x2), some (.int s0), some (.int (1 : Int32)), some (.int (x5 + (1 : Int32)))]) (And.intro rfl (And.intro rfl (And.intro rfl (And.intro rfl (And.intro rfl (And.intro rfl trivial)))))) (hc (s0, (1 : Int32), (x5 + (1 : Int32))) rfl)
  · refine iq_G_neg (c := ¬ x4 = 0) (σ1 := (115, [some (.ref 76), some (.int x1), some (.int x2), some (.int s0), some (.int x4), some (.int x5)], [], (iq_sh l, I, J, X))) (fun _ => rfl) hc_ ?_
    refine iq_G_go (k := 5) (σ' := (123, [some (.ref 76), some (.int x1), some (.int x2), some (.int s0), some (.int x4), some (.int x5)], [.int x5, .int x2, .ref 76, .ref 106], (iq_sh l, I, J, X))) (fun _ => rfl) ?_
    obtain ⟨q4, hq4, h⟩ := iq_bnd h
    refine iq_G_call (σ' := (126, [some (.ref 76), some (.int x1), some (.int x2), some (.int s0), some (.int x4), some (.int x5)], [.int q4, .ref 106], (iq_sh l, I, J, X))) (fun _ => rfl) (zM_leads_ok l x2 x5 I J X hq4) rfl rfl ?_
    obtain ⟨hc_, h⟩ := iq_itn h
    refine iq_G_pos (c := iq_in q4 10) (σ1 := (127, [some (.ref 76), some (.int x1), some (.int x2), some (.int s0), some (.int x4), some (.int x5)], [.int (I 106 (Int32.toNatClampNeg q4))], (iq_sh l, I, J, X))) (fun _ => rfl) hc_ ?_
    refine iq_G_go (k := 1) (σ' := (128, [some (.ref 76), some (.int x1), some (.int x2), some (.int s0), some (.int x4), some (.int x5)], [.int (2 : Int32), .int (I 106 (Int32.toNatClampNeg q4))], (iq_sh l, I, J, X))) (fun _ => rfl) ?_
    rcases iq_ite h with ⟨hc_, h⟩ | ⟨hc_, h⟩
    · refine iq_G_pos (c := ¬ (I 106 (Int32.toNatClampNeg q4)) = (2 : Int32)) (σ1 := (135, [some (.ref 76), some (.int x1), some (.int x2), some (.int s0), some (.int x4), some (.int x5)], [], (iq_sh l, I, J, X))) (fun _ => rfl) hc_ ?_
      refine iq_G_go (k := 4) (σ' := (61, [some (.ref 76), some (.int x1), some (.int x2), some (.int s0), some (.int (0 : Int32)), some (.int (x5 + (1 : Int32)))], [], (iq_sh l, I, J, X))) (fun _ => rfl) ?_
      cases h
      exact iq_G_fg (L := [some (.ref 76), some (.int x1), some (.int x2), some (.int s0), some (.int (0 : Int32)), some (.int (x5 + (1 : Int32)))]) (And.intro rfl (And.intro rfl (And.intro rfl (And.intro rfl (And.intro rfl (And.intro rfl trivial)))))) (hc (s0, (0 : Int32), (x5 + (1 : Int32))) rfl)
    · refine iq_G_neg (c := ¬ (I 106 (Int32.toNatClampNeg q4)) = (2 : Int32)) (σ1 := (131, [some (.ref 76), some (.int x1), some (.int x2), some (.int s0), some (.int x4), some (.int x5)], [], (iq_sh l, I, J, X))) (fun _ => rfl) hc_ ?_
      refine iq_G_go (k := 5) (σ' := (61, [some (.ref 76), some (.int x1), some (.int x2), some (.int s0), some (.int (1 : Int32)), some (.int (x5 + (1 : Int32)))], [], (iq_sh l, I, J, X))) (fun _ => rfl) ?_
      cases h
      exact iq_G_fg (L := [some (.ref 76), some (.int x1), some (.int x2), some (.int s0), some (.int (1 : Int32)), some (.int (x5 + (1 : Int32)))]) (And.intro rfl (And.intro rfl (And.intro rfl (And.intro rfl (And.intro rfl (And.intro rfl trivial)))))) (hc (s0, (1 : Int32), (x5 + (1 : Int32))) rfl)
set_option maxRecDepth 100000 in
theorem zM_plays_108_ok (l : Nat)  (x1 : Int32) (x2 : Int32) (x4 : Int32) (x5 : Int32) (I : iq_I) (J : iq_J) (X : iq_X)  {q : (Int32 × Int32 × Int32) ⊕ (Int32 × Int32)} (h : zM_plays_108 x1 x2 x4 x5 I = some q) (r : iq_R × iq_M) (hc : ∀ v, q = .inl v → iq_Gg 1 278 (61, [some (.ref 76), some (.int x1), some (.int x2), some (.int v.1), some (.int v.2.1), some (.int v.2.2)], [], (iq_sh l, I, J, X)) r) (hx : ∀ w, q = .inr w → iq_Gg 1 278 (144, [some (.ref 76), some (.int x1), some (.int x2), some (.int w.1), some (.int w.2), none], [], (iq_sh l, I, J, X)) r) : iq_Gg 1 278 (108, [some (.ref 76), some (.int x1), some (.int x2), none, some (.int x4), some (.int x5)], [], (iq_sh l, I, J, X)) r := by
  unfold zM_plays_108 at h
  refine iq_G_go (k := 1) (σ' := (109, [some (.ref 76), some (.int x1), some (.int x2), none, some (.int x4), some (.int x5)], [.int (0 : Int32)], (iq_sh l, I, J, X))) (fun _ => rfl) ?_
  exact iq_G_fg (L := [some (.ref 76), some (.int x1), some (.int x2), none, some (.int x4), some (.int x5)]) (And.intro rfl (And.intro rfl (And.intro rfl (And.intro rfl (And.intro rfl trivial))))) (zM_plays_109_ok l x1 x2 x4 x5 (0 : Int32) I J X  h r hc hx)
set_option maxRecDepth 100000 in
theorem zM_plays_l61_bok (l : Nat)  (x1 : Int32) (x2 : Int32) (I : iq_I) (J : iq_J) (X : iq_X) (x3 : Int32) (x4 : Int32) (x5 : Int32)  {q : (Int32 × Int32 × Int32) ⊕ (Int32 × Int32)} (h : zM_plays_l61_b x1 x2 I x3 x4 x5 = some q) (r : iq_R × iq_M) (hc : ∀ v, q = .inl v → iq_Gg 1 278 (61, [some (.ref 76), some (.int x1), some (.int x2), some (.int v.1), some (.int v.2.1), some (.int v.2.2)], [], (iq_sh l, I, J, X)) r) (hx : ∀ w, q = .inr w → iq_Gg 1 278 (144, [some (.ref 76), some (.int x1), some (.int x2), some (.int w.1), some (.int w.2), none], [], (iq_sh l, I, J, X)) r) : iq_Gg 1 278 (61, [some (.ref 76), some (.int x1), some (.int x2), some (.int x3), some (.int x4), some (.int x5)], [], (iq_sh l, I, J, X)) r := by
  unfold zM_plays_l61_b at h
  refine iq_G_go (k := 3) (σ' := (67, [some (.ref 76), some (.int x1), some (.int x2), some (.int x3), some (.int x4), some (.int x5)], [.int (I 76 2), .int x5], (iq_sh l, I, J, X))) (fun _ => rfl) ?_
  rcases iq_ite h with ⟨hc_, h⟩ | ⟨hc_, h⟩
  · refine iq_G_pos (c := (I 76 2) ≤ x5) (σ1 := (144, [some (.ref 76), some (.int x1), some (.int x2), some (.int x3), some (.int x4), some (.int x5)], [], (iq_sh l, I, J, X))) (fun _ => rfl) hc_ ?_
    cases h
    exact iq_G_fg (L := [some (.ref 76), some (.int x1), some (.int x2), some (.int x3), some (.int x4), none]) (And.intro rfl (And.intro rfl (And.intro rfl (And.intro rfl (And.intro rfl trivial))))) (hx (x3, x4) rfl)
  · refine iq_G_neg (c := (I 76 2) ≤ x5) (σ1 := (70, [some (.ref 76), some (.int x1), some (.int x2), some (.int x3), some (.int x4), some (.int x5)], [], (iq_sh l, I, J, X))) (fun _ => rfl) hc_ ?_
    refine iq_G_go (k := 3) (σ' := (74, [some (.ref 76), some (.int x1), some (.int x2), some (.int x3), some (.int x4), some (.int x5)], [.int x5, .int x2, .ref 76], (iq_sh l, I, J, X))) (fun _ => rfl) ?_
    obtain ⟨q3, hq3, h⟩ := iq_bnd h
    refine iq_G_call (σ' := (77, [some (.ref 76), some (.int x1), some (.int x2), some (.int x3), some (.int x4), some (.int x5)], [.int q3], (iq_sh l, I, J, X))) (fun _ => rfl) (zM_leads_ok l x2 x5 I J X hq3) rfl rfl ?_
    refine iq_G_go (k := 1) (σ' := (78, [some (.ref 76), some (.int x1), some (.int x2), some (.int x3), some (.int x4), some (.int x5)], [.int (-1 : Int32), .int q3], (iq_sh l, I, J, X))) (fun _ => rfl) ?_
    rcases iq_ite h with ⟨hc_, h⟩ | ⟨hc_, h⟩
    · refine iq_G_pos (c := ¬ q3 = (-1 : Int32)) (σ1 := (84, [some (.ref 76), some (.int x1), some (.int x2), some (.int x3), some (.int x4), some (.int x5)], [], (iq_sh l, I, J, X))) (fun _ => rfl) hc_ ?_
      refine iq_G_go (k := 1) (σ' := (85, [some (.ref 76), some (.int x1), some (.int x2), some (.int x3), some (.int x4), some (.int x5)], [.int x3], (iq_sh l, I, J, X))) (fun _ => rfl) ?_
      rcases iq_ite h with ⟨hc_, h⟩ | ⟨hc_, h⟩
      · refine iq_G_pos (c := x3 = 0) (σ1 := (108, [some (.ref 76), some (.int x1), some (.int x2), some (.int x3), some (.int x4), some (.int x5)], [], (iq_sh l, I, J, X))) (fun _ => rfl) hc_ ?_
        exact iq_G_fg (L := [some (.ref 76), some (.int x1), some (.int x2), none, some (.int x4), some (.int x5)]) (And.intro rfl (And.intro rfl (And.intro rfl (And.intro rfl (And.intro rfl trivial))))) (zM_plays_108_ok l x1 x2 x4 x5 I J X  h r hc hx)
      · refine iq_G_neg (c := x3 = 0) (σ1 := (88, [some (.ref 76), some (.int x1), some (.int x2), some (.int x3), some (.int x4), some (.int x5)], [], (iq_sh l, I, J, X))) (fun _ => rfl) hc_ ?_
        refine iq_G_go (k := 5) (σ' := (96, [some (.ref 76), some (.int x1), some (.int x2), some (.int x3), some (.int x4), some (.int x5)], [.int x5, .int x2, .ref 76, .ref 106], (iq_sh l, I, J, X))) (fun _ => rfl) ?_
        obtain ⟨q5, hq5, h⟩ := iq_bnd h
        refine iq_G_call (σ' := (99, [some (.ref 76), some (.int x1), some (.int x2), some (.int x3), some (.int x4), some (.int x5)], [.int q5, .ref 106], (iq_sh l, I, J, X))) (fun _ => rfl) (zM_leads_ok l x2 x5 I J X hq5) rfl rfl ?_
        obtain ⟨hc_, h⟩ := iq_itn h
        refine iq_G_pos (c := iq_in q5 10) (σ1 := (100, [some (.ref 76), some (.int x1), some (.int x2), some (.int x3), some (.int x4), some (.int x5)], [.int (I 106 (Int32.toNatClampNeg q5))], (iq_sh l, I, J, X))) (fun _ => rfl) hc_ ?_
        refine iq_G_go (k := 1) (σ' := (101, [some (.ref 76), some (.int x1), some (.int x2), some (.int x3), some (.int x4), some (.int x5)], [.int (1 : Int32), .int (I 106 (Int32.toNatClampNeg q5))], (iq_sh l, I, J, X))) (fun _ => rfl) ?_
        rcases iq_ite h with ⟨hc_, h⟩ | ⟨hc_, h⟩
        · refine iq_G_pos (c := ¬ (I 106 (Int32.toNatClampNeg q5)) = (1 : Int32)) (σ1 := (108, [some (.ref 76), some (.int x1), some (.int x2), some (.int x3), some (.int x4), some (.int x5)], [], (iq_sh l, I, J, X))) (fun _ => rfl) hc_ ?_
          exact iq_G_fg (L := [some (.ref 76), some (.int x1), some (.int x2), none, some (.int x4), some (.int x5)]) (And.intro rfl (And.intro rfl (And.intro rfl (And.intro rfl (And.intro rfl trivial))))) (zM_plays_108_ok l x1 x2 x4 x5 I J X  h r hc hx)
        · refine iq_G_neg (c := ¬ (I 106 (Int32.toNatClampNeg q5)) = (1 : Int32)) (σ1 := (104, [some (.ref 76), some (.int x1), some (.int x2), some (.int x3), some (.int x4), some (.int x5)], [], (iq_sh l, I, J, X))) (fun _ => rfl) hc_ ?_
          refine iq_G_go (k := 2) (σ' := (109, [some (.ref 76), some (.int x1), some (.int x2), some (.int x3), some (.int x4), some (.int x5)], [.int (1 : Int32)], (iq_sh l, I, J, X))) (fun _ => rfl) ?_
          exact iq_G_fg (L := [some (.ref 76), some (.int x1), some (.int x2), none, some (.int x4), some (.int x5)]) (And.intro rfl (And.intro rfl (And.intro rfl (And.intro rfl (And.intro rfl trivial))))) (zM_plays_109_ok l x1 x2 x4 x5 (1 : Int32) I J X  h r hc hx)
    · refine iq_G_neg (c := ¬ q3 = (-1 : Int32)) (σ1 := (81, [some (.ref 76), some (.int x1), some (.int x2), some (.int x3), some (.int x4), some (.int x5)], [], (iq_sh l, I, J, X))) (fun _ => rfl) hc_ ?_
      refine iq_G_go (k := 3) (σ' := (61, [some (.ref 76), some (.int x1), some (.int x2), some (.int x3), some (.int x4), some (.int (x5 + (1 : Int32)))], [], (iq_sh l, I, J, X))) (fun _ => rfl) ?_
      cases h
      exact iq_G_fg (L := [some (.ref 76), some (.int x1), some (.int x2), some (.int x3), some (.int x4), some (.int (x5 + (1 : Int32)))]) (And.intro rfl (And.intro rfl (And.intro rfl (And.intro rfl (And.intro rfl (And.intro rfl trivial)))))) (hc (x3, x4, (x5 + (1 : Int32))) rfl)
set_option maxRecDepth 100000 in
theorem zM_plays_l61_ok (l : Nat)  (x1 : Int32) (x2 : Int32) (I : iq_I) (J : iq_J) (X : iq_X) {n : Nat} {v : Int32 × Int32 × Int32} {w : Int32 × Int32} (h : zM_plays_l61 x1 x2 I n v = some w) (r : iq_R × iq_M) (hq : iq_Gg 1 278 (144, [some (.ref 76), some (.int x1), some (.int x2), some (.int w.1), some (.int w.2), none], [], (iq_sh l, I, J, X)) r) : iq_Gg 1 278 (61, [some (.ref 76), some (.int x1), some (.int x2), some (.int v.1), some (.int v.2.1), some (.int v.2.2)], [], (iq_sh l, I, J, X)) r :=
  iq_lp_ok (σ := fun v => (61, [some (.ref 76), some (.int x1), some (.int x2), some (.int v.1), some (.int v.2.1), some (.int v.2.2)], [], (iq_sh l, I, J, X))) (Q := fun w r => iq_Gg 1 278 (144, [some (.ref 76), some (.int x1), some (.int x2), some (.int w.1), some (.int w.2), none], [], (iq_sh l, I, J, X)) r) (fun v q hv r h1 h2 => zM_plays_l61_bok l x1 x2 I J X v.1 v.2.1 v.2.2 hv r h1 h2) h r hq
set_option maxRecDepth 100000 in
theorem zM_plays_171_ok (l : Nat)  (x2 : Int32) (s1 : Int32) (s2 : Int32) (I : iq_I) (J : iq_J) (X : iq_X)  {q : (Int32 × Int32 × iq_I) ⊕ (Int32 × iq_I)} (h : zM_plays_171 x2 s1 s2 I = some q) (r : iq_R × iq_M) (hc : ∀ v, q = .inl v → iq_Gg 1 278 (33, [some (.ref 76), some (.int v.1), some (.int v.2.1), none, none, none], [], (iq_sh l, v.2.2, J, X)) r) (hx : ∀ w, q = .inr w → iq_Gg 1 278 (180, [some (.ref 76), some (.int w.1), none, none, none, none], [], (iq_sh l, w.2, J, X)) r) : iq_Gg 1 278 (171, [some (.ref 76), none, some (.int x2), none, none, none], [.int s2, .int s1, .ref 106], (iq_sh l, I, J, X)) r := by
  unfold zM_plays_171 at h
  obtain ⟨hc_, h⟩ := iq_itn h
  refine iq_G_pos (c := iq_in s1 10) (σ1 := (172, [some (.ref 76), none, some (.int x2), none, none, none], [], (iq_sh l, (iq_upI I 106 (Int32.toNatClampNeg s1) s2), J, X))) (fun _ => rfl) hc_ ?_
  obtain ⟨I7, eI7, h⟩ := ir_letG h
  rw [← eI7]
  clear eI7
  refine iq_G_go (k := 4) (σ' := (33, [some (.ref 76), some (.int (1 : Int32)), some (.int (x2 + (1 : Int32))), none, none, none], [], (iq_sh l, I7, J, X))) (fun _ => rfl) ?_
  cases h
  exact iq_G_fg (L := [some (.ref 76), some (.int (1 : Int32)), some (.int (x2 + (1 : Int32))), none, none, none]) (And.intro rfl (And.intro rfl (And.intro rfl trivial))) (hc ((1 : Int32), (x2 + (1 : Int32)), I7) rfl)
set_option maxRecDepth 100000 in
theorem zM_plays_156_ok (l : Nat)  (x2 : Int32) (x4 : Int32) (I : iq_I) (J : iq_J) (X : iq_X)  {q : (Int32 × Int32 × iq_I) ⊕ (Int32 × iq_I)} (h : zM_plays_156 x2 x4 I = some q) (r : iq_R × iq_M) (hc : ∀ v, q = .inl v → iq_Gg 1 278 (33, [some (.ref 76), some (.int v.1), some (.int v.2.1), none, none, none], [], (iq_sh l, v.2.2, J, X)) r) (hx : ∀ w, q = .inr w → iq_Gg 1 278 (180, [some (.ref 76), some (.int w.1), none, none, none, none], [], (iq_sh l, w.2, J, X)) r) : iq_Gg 1 278 (156, [some (.ref 76), none, some (.int x2), none, some (.int x4), none], [], (iq_sh l, I, J, X)) r := by
  unfold zM_plays_156 at h
  refine iq_G_go (k := 4) (σ' := (163, [some (.ref 76), none, some (.int x2), none, some (.int x4), none], [.int x4, .int x2, .ref 106], (iq_sh l, I, J, X))) (fun _ => rfl) ?_
  rcases iq_ite h with ⟨hc_, h⟩ | ⟨hc_, h⟩
  · refine iq_G_pos (c := x4 = 0) (σ1 := (170, [some (.ref 76), none, some (.int x2), none, some (.int x4), none], [.int x2, .ref 106], (iq_sh l, I, J, X))) (fun _ => rfl) hc_ ?_
    refine iq_G_go (k := 1) (σ' := (171, [some (.ref 76), none, some (.int x2), none, some (.int x4), none], [.int (2 : Int32), .int x2, .ref 106], (iq_sh l, I, J, X))) (fun _ => rfl) ?_
    exact iq_G_fg (L := [some (.ref 76), none, some (.int x2), none, none, none]) (And.intro rfl (And.intro rfl trivial)) (zM_plays_171_ok l x2 x2 (2 : Int32) I J X  h r hc hx)
  · refine iq_G_neg (c := x4 = 0) (σ1 := (166, [some (.ref 76), none, some (.int x2), none, some (.int x4), none], [.int x2, .ref 106], (iq_sh l, I, J, X))) (fun _ => rfl) hc_ ?_
    refine iq_G_go (k := 2) (σ' := (171, [some (.ref 76), none, some (.int x2), none, some (.int x4), none], [.int (1 : Int32), .int x2, .ref 106], (iq_sh l, I, J, X))) (fun _ => rfl) ?_
    exact iq_G_fg (L := [some (.ref 76), none, some (.int x2), none, none, none]) (And.intro rfl (And.intro rfl trivial)) (zM_plays_171_ok l x2 x2 (1 : Int32) I J X  h r hc hx)
set_option maxRecDepth 100000 in
theorem zM_plays_l33_bok (l : Nat)   (J : iq_J) (X : iq_X) (x1 : Int32) (x2 : Int32) (I : iq_I) {q : (Int32 × Int32 × iq_I) ⊕ (Int32 × iq_I)} (h : zM_plays_l33_b  x1 x2 I = some q) (r : iq_R × iq_M) (hc : ∀ v, q = .inl v → iq_Gg 1 278 (33, [some (.ref 76), some (.int v.1), some (.int v.2.1), none, none, none], [], (iq_sh l, v.2.2, J, X)) r) (hx : ∀ w, q = .inr w → iq_Gg 1 278 (180, [some (.ref 76), some (.int w.1), none, none, none, none], [], (iq_sh l, w.2, J, X)) r) : iq_Gg 1 278 (33, [some (.ref 76), some (.int x1), some (.int x2), none, none, none], [], (iq_sh l, I, J, X)) r := by
  unfold zM_plays_l33_b at h
  refine iq_G_go (k := 3) (σ' := (38, [some (.ref 76), some (.int x1), some (.int x2), none, none, none], [.int (I 76 1), .int x2], (iq_sh l, I, J, X))) (fun _ => rfl) ?_
  rcases iq_ite h with ⟨hc_, h⟩ | ⟨hc_, h⟩
  · refine iq_G_pos (c := (I 76 1) ≤ x2) (σ1 := (180, [some (.ref 76), some (.int x1), some (.int x2), none, none, none], [], (iq_sh l, I, J, X))) (fun _ => rfl) hc_ ?_
    cases h
    exact iq_G_fg (L := [some (.ref 76), some (.int x1), none, none, none, none]) (And.intro rfl (And.intro rfl trivial)) (hx (x1, I) rfl)
  · refine iq_G_neg (c := (I 76 1) ≤ x2) (σ1 := (41, [some (.ref 76), some (.int x1), some (.int x2), none, none, none], [], (iq_sh l, I, J, X))) (fun _ => rfl) hc_ ?_
    refine iq_G_go (k := 3) (σ' := (46, [some (.ref 76), some (.int x1), some (.int x2), none, none, none], [.int x2, .ref 106], (iq_sh l, I, J, X))) (fun _ => rfl) ?_
    obtain ⟨hc_, h⟩ := iq_itn h
    refine iq_G_pos (c := iq_in x2 10) (σ1 := (47, [some (.ref 76), some (.int x1), some (.int x2), none, none, none], [.int (I 106 (Int32.toNatClampNeg x2))], (iq_sh l, I, J, X))) (fun _ => rfl) hc_ ?_
    rcases iq_ite h with ⟨hc_, h⟩ | ⟨hc_, h⟩
    · refine iq_G_pos (c := (I 106 (Int32.toNatClampNeg x2)) = 0) (σ1 := (53, [some (.ref 76), some (.int x1), some (.int x2), none, none, none], [], (iq_sh l, I, J, X))) (fun _ => rfl) hc_ ?_
      refine iq_G_go (k := 6) (σ' := (61, [some (.ref 76), some (.int x1), some (.int x2), some (.int (1 : Int32)), some (.int (0 : Int32)), some (.int (0 : Int32))], [], (iq_sh l, I, J, X))) (fun _ => rfl) ?_
      obtain ⟨w6, hw6, h⟩ := iq_bnd h
      refine iq_G_fg (L := [some (.ref 76), some (.int x1), some (.int x2), some (.int (1 : Int32)), some (.int (0 : Int32)), some (.int (0 : Int32))]) (And.intro rfl (And.intro rfl (And.intro rfl (And.intro rfl (And.intro rfl (And.intro rfl trivial)))))) ?_
      refine zM_plays_l61_ok l x1 x2 I J X hw6 _ ?_
      show iq_Gg 1 278 (144, [some (.ref 76), some (.int x1), some (.int x2), some (.int w6.1), some (.int w6.2), none], [], (iq_sh l, I, J, X)) _
      refine iq_G_go (k := 1) (σ' := (145, [some (.ref 76), some (.int x1), some (.int x2), some (.int w6.1), some (.int w6.2), none], [.int w6.1], (iq_sh l, I, J, X))) (fun _ => rfl) ?_
      rcases iq_ite h with ⟨hc_, h⟩ | ⟨hc_, h⟩
      · refine iq_G_pos (c := ¬ w6.1 = 0) (σ1 := (156, [some (.ref 76), some (.int x1), some (.int x2), some (.int w6.1), some (.int w6.2), none], [], (iq_sh l, I, J, X))) (fun _ => rfl) hc_ ?_
        exact iq_G_fg (L := [some (.ref 76), none, some (.int x2), none, some (.int w6.2), none]) (And.intro rfl (And.intro rfl (And.intro rfl trivial))) (zM_plays_156_ok l x2 w6.2 I J X  h r hc hx)
      · refine iq_G_neg (c := ¬ w6.1 = 0) (σ1 := (148, [some (.ref 76), some (.int x1), some (.int x2), some (.int w6.1), some (.int w6.2), none], [], (iq_sh l, I, J, X))) (fun _ => rfl) hc_ ?_
        refine iq_G_go (k := 1) (σ' := (150, [some (.ref 76), some (.int x1), some (.int x2), some (.int w6.1), some (.int w6.2), none], [.int w6.2], (iq_sh l, I, J, X))) (fun _ => rfl) ?_
        rcases iq_ite h with ⟨hc_, h⟩ | ⟨hc_, h⟩
        · refine iq_G_pos (c := ¬ w6.2 = 0) (σ1 := (156, [some (.ref 76), some (.int x1), some (.int x2), some (.int w6.1), some (.int w6.2), none], [], (iq_sh l, I, J, X))) (fun _ => rfl) hc_ ?_
          exact iq_G_fg (L := [some (.ref 76), none, some (.int x2), none, some (.int w6.2), none]) (And.intro rfl (And.intro rfl (And.intro rfl trivial))) (zM_plays_156_ok l x2 w6.2 I J X  h r hc hx)
        · refine iq_G_neg (c := ¬ w6.2 = 0) (σ1 := (153, [some (.ref 76), some (.int x1), some (.int x2), some (.int w6.1), some (.int w6.2), none], [], (iq_sh l, I, J, X))) (fun _ => rfl) hc_ ?_
          refine iq_G_go (k := 3) (σ' := (33, [some (.ref 76), some (.int x1), some (.int (x2 + (1 : Int32))), some (.int w6.1), some (.int w6.2), none], [], (iq_sh l, I, J, X))) (fun _ => rfl) ?_
          cases h
          exact iq_G_fg (L := [some (.ref 76), some (.int x1), some (.int (x2 + (1 : Int32))), none, none, none]) (And.intro rfl (And.intro rfl (And.intro rfl trivial))) (hc (x1, (x2 + (1 : Int32)), I) rfl)
    · refine iq_G_neg (c := (I 106 (Int32.toNatClampNeg x2)) = 0) (σ1 := (50, [some (.ref 76), some (.int x1), some (.int x2), none, none, none], [], (iq_sh l, I, J, X))) (fun _ => rfl) hc_ ?_
      refine iq_G_go (k := 3) (σ' := (33, [some (.ref 76), some (.int x1), some (.int (x2 + (1 : Int32))), none, none, none], [], (iq_sh l, I, J, X))) (fun _ => rfl) ?_
      cases h
      exact iq_G_fg (L := [some (.ref 76), some (.int x1), some (.int (x2 + (1 : Int32))), none, none, none]) (And.intro rfl (And.intro rfl (And.intro rfl trivial))) (hc (x1, (x2 + (1 : Int32)), I) rfl)
set_option maxRecDepth 100000 in
theorem zM_plays_l33_ok (l : Nat)   (J : iq_J) (X : iq_X) {n : Nat} {v : Int32 × Int32 × iq_I} {w : Int32 × iq_I} (h : zM_plays_l33  n v = some w) (r : iq_R × iq_M) (hq : iq_Gg 1 278 (180, [some (.ref 76), some (.int w.1), none, none, none, none], [], (iq_sh l, w.2, J, X)) r) : iq_Gg 1 278 (33, [some (.ref 76), some (.int v.1), some (.int v.2.1), none, none, none], [], (iq_sh l, v.2.2, J, X)) r :=
  iq_lp_ok (σ := fun v => (33, [some (.ref 76), some (.int v.1), some (.int v.2.1), none, none, none], [], (iq_sh l, v.2.2, J, X))) (Q := fun w r => iq_Gg 1 278 (180, [some (.ref 76), some (.int w.1), none, none, none, none], [], (iq_sh l, w.2, J, X)) r) (fun v q hv r h1 h2 => zM_plays_l33_bok l J X v.1 v.2.1 v.2.2 hv r h1 h2) h r hq
set_option maxRecDepth 100000 in
theorem zM_plays_l25_bok (l : Nat)   (J : iq_J) (X : iq_X) (x1 : Int32) (I : iq_I) {q : (Int32 × iq_I) ⊕ (iq_I)} (h : zM_plays_l25_b  x1 I = some q) (r : iq_R × iq_M) (hc : ∀ v, q = .inl v → iq_Gg 1 278 (25, [some (.ref 76), some (.int v.1), none, none, none, none], [], (iq_sh l, v.2, J, X)) r) (hx : ∀ w, q = .inr w → iq_Gg 1 278 (183, [none, none, none, none, none, none], [], (iq_sh l, w, J, X)) r) : iq_Gg 1 278 (25, [some (.ref 76), some (.int x1), none, none, none, none], [], (iq_sh l, I, J, X)) r := by
  unfold zM_plays_l25_b at h
  refine iq_G_go (k := 1) (σ' := (26, [some (.ref 76), some (.int x1), none, none, none, none], [.int x1], (iq_sh l, I, J, X))) (fun _ => rfl) ?_
  rcases iq_ite h with ⟨hc_, h⟩ | ⟨hc_, h⟩
  · refine iq_G_pos (c := x1 = 0) (σ1 := (183, [some (.ref 76), some (.int x1), none, none, none, none], [], (iq_sh l, I, J, X))) (fun _ => rfl) hc_ ?_
    cases h
    exact iq_G_fg (L := [none, none, none, none, none, none]) trivial (hx I rfl)
  · refine iq_G_neg (c := x1 = 0) (σ1 := (29, [some (.ref 76), some (.int x1), none, none, none, none], [], (iq_sh l, I, J, X))) (fun _ => rfl) hc_ ?_
    refine iq_G_go (k := 4) (σ' := (33, [some (.ref 76), some (.int (0 : Int32)), some (.int (0 : Int32)), none, none, none], [], (iq_sh l, I, J, X))) (fun _ => rfl) ?_
    obtain ⟨w8, hw8, h⟩ := iq_bnd h
    refine iq_G_fg (L := [some (.ref 76), some (.int (0 : Int32)), some (.int (0 : Int32)), none, none, none]) (And.intro rfl (And.intro rfl (And.intro rfl trivial))) ?_
    refine zM_plays_l33_ok l J X hw8 _ ?_
    show iq_Gg 1 278 (180, [some (.ref 76), some (.int w8.1), none, none, none, none], [], (iq_sh l, w8.2, J, X)) _
    refine iq_G_go (k := 1) (σ' := (25, [some (.ref 76), some (.int w8.1), none, none, none, none], [], (iq_sh l, w8.2, J, X))) (fun _ => rfl) ?_
    cases h
    exact iq_G_fg (L := [some (.ref 76), some (.int w8.1), none, none, none, none]) (And.intro rfl (And.intro rfl trivial)) (hc (w8.1, w8.2) rfl)
set_option maxRecDepth 100000 in
theorem zM_plays_l25_ok (l : Nat)   (J : iq_J) (X : iq_X) {n : Nat} {v : Int32 × iq_I} {w : iq_I} (h : zM_plays_l25  n v = some w) (r : iq_R × iq_M) (hq : iq_Gg 1 278 (183, [none, none, none, none, none, none], [], (iq_sh l, w, J, X)) r) : iq_Gg 1 278 (25, [some (.ref 76), some (.int v.1), none, none, none, none], [], (iq_sh l, v.2, J, X)) r :=
  iq_lp_ok (σ := fun v => (25, [some (.ref 76), some (.int v.1), none, none, none, none], [], (iq_sh l, v.2, J, X))) (Q := fun w r => iq_Gg 1 278 (183, [none, none, none, none, none, none], [], (iq_sh l, w, J, X)) r) (fun v q hv r h1 h2 => zM_plays_l25_bok l J X v.1 v.2 hv r h1 h2) h r hq
set_option maxRecDepth 100000 in
theorem zM_plays_ok (l : Nat)   (I : iq_I) (J : iq_J) (X : iq_X) {q : iq_I} (h : zM_plays I = some q) : iq_Cc 2 278 [.ref 76] (iq_sh l, I, J, X) (.inl none, (iq_sh l, q, J, X)) := by
  refine iq_Cc_of (L := [some (.ref 76), none, none, none, none, none]) rfl rfl ?_
  unfold zM_plays at h
  refine iq_G_go (k := 2) (σ' := (2, [some (.ref 76), some (.int (0 : Int32)), none, none, none, none], [], (iq_sh l, I, J, X))) (fun _ => rfl) ?_
  obtain ⟨w2, hw2, h⟩ := iq_bnd h
  refine iq_G_fg (L := [some (.ref 76), some (.int (0 : Int32)), none, none, none, none]) (And.intro rfl (And.intro rfl trivial)) ?_
  refine zM_plays_l2_ok l J X hw2 _ ?_
  show iq_Gg 1 278 (23, [some (.ref 76), none, none, none, none, none], [], (iq_sh l, w2, J, X)) _
  refine iq_G_go (k := 2) (σ' := (25, [some (.ref 76), some (.int (1 : Int32)), none, none, none, none], [], (iq_sh l, w2, J, X))) (fun _ => rfl) ?_
  obtain ⟨w9, hw9, h⟩ := iq_bnd h
  refine iq_G_fg (L := [some (.ref 76), some (.int (1 : Int32)), none, none, none, none]) (And.intro rfl (And.intro rfl trivial)) ?_
  refine zM_plays_l25_ok l J X hw9 _ ?_
  show iq_Gg 1 278 (183, [none, none, none, none, none, none], [], (iq_sh l, w9, J, X)) _
  cases h
  exact iq_G_ret (fun _ => rfl)
set_option maxRecDepth 100000 in
theorem zM_turn_l41_bok (l : Nat)  (x1 : Int32) (I : iq_I) (J : iq_J) (X : iq_X) (x3 : Int32)  {q : (Int32) ⊕ ((Unit) ⊕ (Int32 × iq_I))} (h : zM_turn_l41_b x1 I x3 = some q) (r : iq_R × iq_M) (hc : ∀ v, q = .inl v → iq_Gg 2 279 (41, [some (.ref 76), some (.int x1), none, some (.int v)], [], (iq_sh l, I, J, X)) r) (hx : ∀ w, q = .inr w → (∀ a, w = .inl a → iq_Gg 2 279 (82, [none, none, none, none], [], (iq_sh l, I, J, X)) r) ∧ (∀ b, w = .inr b → r = (.inl (some (.int b.1)), (iq_sh l, b.2, J, X)))) : iq_Gg 2 279 (41, [some (.ref 76), some (.int x1), none, some (.int x3)], [], (iq_sh l, I, J, X)) r := by
  unfold zM_turn_l41_b at h
  refine iq_G_go (k := 3) (σ' := (46, [some (.ref 76), some (.int x1), none, some (.int x3)], [.int (I 76 2), .int x3], (iq_sh l, I, J, X))) (fun _ => rfl) ?_
  rcases iq_ite h with ⟨hc_, h⟩ | ⟨hc_, h⟩
  · refine iq_G_pos (c := (I 76 2) ≤ x3) (σ1 := (82, [some (.ref 76), some (.int x1), none, some (.int x3)], [], (iq_sh l, I, J, X))) (fun _ => rfl) hc_ ?_
    cases h
    exact iq_G_fg (L := [none, none, none, none]) trivial ((hx (.inl ()) rfl).1 () rfl)
  · refine iq_G_neg (c := (I 76 2) ≤ x3) (σ1 := (49, [some (.ref 76), some (.int x1), none, some (.int x3)], [], (iq_sh l, I, J, X))) (fun _ => rfl) hc_ ?_
    refine iq_G_go (k := 3) (σ' := (52, [some (.ref 76), some (.int x1), none, some (.int x3)], [.int x3, .int x1, .ref 76], (iq_sh l, I, J, X))) (fun _ => rfl) ?_
    obtain ⟨q5, hq5, h⟩ := iq_bnd h
    refine iq_G_call (σ' := (55, [some (.ref 76), some (.int x1), none, some (.int x3)], [.int q5], (iq_sh l, I, J, X))) (fun _ => rfl) (zM_leads_ok l x1 x3 I J X hq5) rfl rfl ?_
    refine iq_G_go (k := 1) (σ' := (56, [some (.ref 76), some (.int x1), none, some (.int x3)], [.int (-1 : Int32), .int q5], (iq_sh l, I, J, X))) (fun _ => rfl) ?_
    rcases iq_ite h with ⟨hc_, h⟩ | ⟨hc_, h⟩
    · refine iq_G_pos (c := q5 = (-1 : Int32)) (σ1 := (76, [some (.ref 76), some (.int x1), none, some (.int x3)], [], (iq_sh l, I, J, X))) (fun _ => rfl) hc_ ?_
      refine iq_G_go (k := 2) (σ' := (41, [some (.ref 76), some (.int x1), none, some (.int (x3 + (1 : Int32)))], [], (iq_sh l, I, J, X))) (fun _ => rfl) ?_
      cases h
      exact iq_G_fg (L := [some (.ref 76), some (.int x1), none, some (.int (x3 + (1 : Int32)))]) (And.intro rfl (And.intro rfl (And.intro rfl trivial))) (hc (x3 + (1 : Int32)) rfl)
    · refine iq_G_neg (c := q5 = (-1 : Int32)) (σ1 := (59, [some (.ref 76), some (.int x1), none, some (.int x3)], [], (iq_sh l, I, J, X))) (fun _ => rfl) hc_ ?_
      refine iq_G_go (k := 5) (σ' := (66, [some (.ref 76), some (.int x1), none, some (.int x3)], [.int x3, .int x1, .ref 76, .ref 106], (iq_sh l, I, J, X))) (fun _ => rfl) ?_
      obtain ⟨q6, hq6, h⟩ := iq_bnd h
      refine iq_G_call (σ' := (69, [some (.ref 76), some (.int x1), none, some (.int x3)], [.int q6, .ref 106], (iq_sh l, I, J, X))) (fun _ => rfl) (zM_leads_ok l x1 x3 I J X hq6) rfl rfl ?_
      obtain ⟨hc_, h⟩ := iq_itn h
      refine iq_G_pos (c := iq_in q6 10) (σ1 := (70, [some (.ref 76), some (.int x1), none, some (.int x3)], [.int (I 106 (Int32.toNatClampNeg q6))], (iq_sh l, I, J, X))) (fun _ => rfl) hc_ ?_
      refine iq_G_go (k := 1) (σ' := (71, [some (.ref 76), some (.int x1), none, some (.int x3)], [.int (2 : Int32), .int (I 106 (Int32.toNatClampNeg q6))], (iq_sh l, I, J, X))) (fun _ => rfl) ?_
      rcases iq_ite h with ⟨hc_, h⟩ | ⟨hc_, h⟩
      · refine iq_G_pos (c := ¬ (I 106 (Int32.toNatClampNeg q6)) = (2 : Int32)) (σ1 := (76, [some (.ref 76), some (.int x1), none, some (.int x3)], [], (iq_sh l, I, J, X))) (fun _ => rfl) hc_ ?_
        refine iq_G_go (k := 2) (σ' := (41, [some (.ref 76), some (.int x1), none, some (.int (x3 + (1 : Int32)))], [], (iq_sh l, I, J, X))) (fun _ => rfl) ?_
        cases h
        exact iq_G_fg (L := [some (.ref 76), some (.int x1), none, some (.int (x3 + (1 : Int32)))]) (And.intro rfl (And.intro rfl (And.intro rfl trivial))) (hc (x3 + (1 : Int32)) rfl)
      · refine iq_G_neg (c := ¬ (I 106 (Int32.toNatClampNeg q6)) = (2 : Int32)) (σ1 := (74, [some (.ref 76), some (.int x1), none, some (.int x3)], [], (iq_sh l, I, J, X))) (fun _ => rfl) hc_ ?_
        refine iq_G_go (k := 1) (σ' := (75, [some (.ref 76), some (.int x1), none, some (.int x3)], [.int x3], (iq_sh l, I, J, X))) (fun _ => rfl) ?_
        cases h
        obtain rfl := (hx _ rfl).2 _ rfl
        exact iq_G_ret (fun _ => rfl)
set_option maxRecDepth 100000 in
theorem zM_turn_l41_ok (l : Nat)  (x1 : Int32) (I : iq_I) (J : iq_J) (X : iq_X) {n : Nat} {v : Int32} {w : (Unit) ⊕ (Int32 × iq_I)} (h : zM_turn_l41 x1 I n v = some w) (r : iq_R × iq_M) (hq : (∀ a, w = .inl a → iq_Gg 2 279 (82, [none, none, none, none], [], (iq_sh l, I, J, X)) r) ∧ (∀ b, w = .inr b → r = (.inl (some (.int b.1)), (iq_sh l, b.2, J, X)))) : iq_Gg 2 279 (41, [some (.ref 76), some (.int x1), none, some (.int v)], [], (iq_sh l, I, J, X)) r :=
  iq_lp_ok (σ := fun v => (41, [some (.ref 76), some (.int x1), none, some (.int v)], [], (iq_sh l, I, J, X))) (Q := fun w r => (∀ a, w = .inl a → iq_Gg 2 279 (82, [none, none, none, none], [], (iq_sh l, I, J, X)) r) ∧ (∀ b, w = .inr b → r = (.inl (some (.int b.1)), (iq_sh l, b.2, J, X)))) (fun v q hv r h1 h2 => zM_turn_l41_bok l x1 I J X v hv r h1 h2) h r hq
set_option maxRecDepth 100000 in
theorem zM_turn_ok (l : Nat)  (x1 : Int32) (x2 : Int32) (I : iq_I) (J : iq_J) (X : iq_X) {q : Int32 × iq_I} (h : zM_turn x1 x2 I = some q) : iq_Cc 3 279 [.ref 76, .int x1, .int x2] (iq_sh l, I, J, X) (.inl (some (.int q.1)), (iq_sh l, q.2, J, X)) := by
  refine iq_Cc_of (L := [some (.ref 76), some (.int x1), some (.int x2), none]) rfl rfl ?_
  unfold zM_turn at h
  refine iq_G_go (k := 2) (σ' := (2, [some (.ref 76), some (.int x1), some (.int x2), none], [.int (0 : Int32), .ref 76], (iq_sh l, I, J, X))) (fun _ => rfl) ?_
  refine iq_G_go (k := 1) (σ' := (5, [some (.ref 76), some (.int x1), some (.int x2), none], [], (iq_sh l, (iq_upI I 76 0 (0 : Int32)), J, X))) (fun _ => rfl) ?_
  obtain ⟨I1, eI1, h⟩ := ir_letG h
  rw [← eI1]
  clear eI1
  refine iq_G_go (k := 2) (σ' := (7, [some (.ref 76), some (.int x1), some (.int x2), none], [.int x1, .ref 76], (iq_sh l, I1, J, X))) (fun _ => rfl) ?_
  obtain ⟨q2, hq2, h⟩ := iq_bnd h
  refine iq_G_call (σ' := (10, [some (.ref 76), some (.int x1), some (.int x2), none], [.int q2.1], (iq_sh l, q2.2, J, X))) (fun _ => rfl) (zM_isState_ok l x1 I1 J X hq2) rfl rfl ?_
  rcases iq_ite h with ⟨hc_, h⟩ | ⟨hc_, h⟩
  · refine iq_G_pos (c := q2.1 = 0) (σ1 := (22, [some (.ref 76), some (.int x1), some (.int x2), none], [], (iq_sh l, q2.2, J, X))) (fun _ => rfl) hc_ ?_
    refine iq_G_go (k := 1) (σ' := (23, [some (.ref 76), some (.int x1), some (.int x2), none], [.int (0 : Int32)], (iq_sh l, q2.2, J, X))) (fun _ => rfl) ?_
    cases h
    exact iq_G_ret (fun _ => rfl)
  · refine iq_G_neg (c := q2.1 = 0) (σ1 := (13, [some (.ref 76), some (.int x1), some (.int x2), none], [], (iq_sh l, q2.2, J, X))) (fun _ => rfl) hc_ ?_
    refine iq_G_go (k := 3) (σ' := (16, [some (.ref 76), some (.int x1), some (.int x2), none], [.int (1 : Int32), .int x2, .ref 76], (iq_sh l, q2.2, J, X))) (fun _ => rfl) ?_
    obtain ⟨q3, hq3, h⟩ := iq_bnd h
    refine iq_G_call (σ' := (19, [some (.ref 76), some (.int x1), some (.int x2), none], [.int q3.1], (iq_sh l, q3.2, J, X))) (fun _ => rfl) (zM_isWhat_ok l x2 (1 : Int32) q2.2 J X hq3) rfl rfl ?_
    rcases iq_ite h with ⟨hc_, h⟩ | ⟨hc_, h⟩
    · refine iq_G_pos (c := ¬ q3.1 = 0) (σ1 := (24, [some (.ref 76), some (.int x1), some (.int x2), none], [], (iq_sh l, q3.2, J, X))) (fun _ => rfl) hc_ ?_
      refine iq_G_go (k := 1) (σ' := (25, [some (.ref 76), some (.int x1), some (.int x2), none], [.ref 76], (iq_sh l, q3.2, J, X))) (fun _ => rfl) ?_
      obtain ⟨q4, hq4, h⟩ := iq_bnd h
      refine iq_G_call (σ' := (28, [some (.ref 76), some (.int x1), some (.int x2), none], [], (iq_sh l, q4, J, X))) (fun _ => rfl) (zM_plays_ok l  q3.2 J X hq4) rfl rfl ?_
      refine iq_G_go (k := 1) (σ' := (29, [some (.ref 76), some (.int x1), some (.int x2), none], [.int x2], (iq_sh l, q4, J, X))) (fun _ => rfl) ?_
      rcases iq_ite h with ⟨hc_, h⟩ | ⟨hc_, h⟩
      · refine iq_G_pos (c := ¬ x2 = 0) (σ1 := (39, [some (.ref 76), some (.int x1), some (.int x2), none], [], (iq_sh l, q4, J, X))) (fun _ => rfl) hc_ ?_
        refine iq_G_go (k := 2) (σ' := (41, [some (.ref 76), some (.int x1), some (.int x2), some (.int (0 : Int32))], [], (iq_sh l, q4, J, X))) (fun _ => rfl) ?_
        obtain ⟨w7, hw7, h⟩ := iq_bnd h
        refine iq_G_fg (L := [some (.ref 76), some (.int x1), none, some (.int (0 : Int32))]) (And.intro rfl (And.intro rfl (And.intro rfl trivial))) ?_
        refine zM_turn_l41_ok l x1 q4 J X hw7 _ ⟨fun a8 ha => ?_, fun b9 hb => ?_⟩
        · subst ha
          replace h := ir_smL h
          show iq_Gg 2 279 (82, [none, none, none, none], [], (iq_sh l, q4, J, X)) _
          refine iq_G_go (k := 1) (σ' := (83, [none, none, none, none], [.int (-1 : Int32)], (iq_sh l, q4, J, X))) (fun _ => rfl) ?_
          cases h
          exact iq_G_ret (fun _ => rfl)
        · subst hb
          replace h := ir_smR h
          cases h
          rfl
      · refine iq_G_neg (c := ¬ x2 = 0) (σ1 := (32, [some (.ref 76), some (.int x1), some (.int x2), none], [], (iq_sh l, q4, J, X))) (fun _ => rfl) hc_ ?_
        refine iq_G_go (k := 3) (σ' := (37, [some (.ref 76), some (.int x1), some (.int x2), none], [.int x1, .ref 106], (iq_sh l, q4, J, X))) (fun _ => rfl) ?_
        obtain ⟨hc_, h⟩ := iq_itn h
        refine iq_G_pos (c := iq_in x1 10) (σ1 := (38, [some (.ref 76), some (.int x1), some (.int x2), none], [.int (q4 106 (Int32.toNatClampNeg x1))], (iq_sh l, q4, J, X))) (fun _ => rfl) hc_ ?_
        cases h
        exact iq_G_ret (fun _ => rfl)
    · refine iq_G_neg (c := ¬ q3.1 = 0) (σ1 := (22, [some (.ref 76), some (.int x1), some (.int x2), none], [], (iq_sh l, q3.2, J, X))) (fun _ => rfl) hc_ ?_
      refine iq_G_go (k := 1) (σ' := (23, [some (.ref 76), some (.int x1), some (.int x2), none], [.int (0 : Int32)], (iq_sh l, q3.2, J, X))) (fun _ => rfl) ?_
      cases h
      exact iq_G_ret (fun _ => rfl)

