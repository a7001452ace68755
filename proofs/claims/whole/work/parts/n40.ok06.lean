/-! ===== the abstract machine does the same (printed by wip/whole/emitall.py, split.py) ===== -/
set_option maxRecDepth 100000 in
theorem zM_season_210_ok (l : Nat)  (x2 : Int32) (x3 : Int32) (x4 : Int32) (x5 : Int32) (I : iq_I) (J : iq_J) (X : iq_X)  {q : (Int32 × Int32 × iq_I) ⊕ (Int32 × iq_I)} (h : zM_season_210 x2 x3 x4 x5 I = some q) (r : iq_R × iq_M) (hc : ∀ v, q = .inl v → iq_Gg 6 308 (58, [some (.ref 76), none, some (.int x2), some (.int x3), some (.int v.1), some (.int v.2.1), none, none, none, none, none, none], [], (iq_sh l, v.2.2, J, X)) r) (hx : ∀ w, q = .inr w → iq_Gg 6 308 (233, [some (.ref 76), none, none, some (.int x3), some (.int w.1), none, none, none, none, none, none, none], [], (iq_sh l, w.2, J, X)) r) : iq_Gg 6 308 (210, [some (.ref 76), none, some (.int x2), some (.int x3), some (.int x4), some (.int x5), none, none, none, none, none, none], [], (iq_sh l, I, J, X)) r := by
  unfold zM_season_210 at h
  refine iq_G_go (k := 6) (σ' := (220, [some (.ref 76), none, some (.int x2), some (.int x3), some (.int x4), some (.int x5), none, none, none, none, none, none], [.int (5 : Int32), .ref 99, .int (5 : Int32), .ref 99], (iq_sh l, I, J, X))) (fun _ => rfl) ?_
  refine iq_G_go (k := 1) (σ' := (221, [some (.ref 76), none, some (.int x2), some (.int x3), some (.int x4), some (.int x5), none, none, none, none, none, none], [.int (I 99 5), .int (5 : Int32), .ref 99], (iq_sh l, I, J, X))) (fun _ => rfl) ?_
  refine iq_G_go (k := 3) (σ' := (225, [some (.ref 76), none, some (.int x2), some (.int x3), some (.int x4), some (.int x5), none, none, none, none, none, none], [.int (7 : Int32), .int ((I 99 5) + (1 : Int32)), .int (5 : Int32), .ref 99], (iq_sh l, I, J, X))) (fun _ => rfl) ?_
  refine iq_G_go (k := 1) (σ' := (226, [some (.ref 76), none, some (.int x2), some (.int x3), some (.int x4), some (.int x5), none, none, none, none, none, none], [.int (((I 99 5) + (1 : Int32)) - ((I 99 5) + (1 : Int32)) / (7 : Int32) * (7 : Int32)), .int (5 : Int32), .ref 99], (iq_sh l, I, J, X))) (fun _ => rfl) ?_
  refine iq_G_go (k := 1) (σ' := (227, [some (.ref 76), none, some (.int x2), some (.int x3), some (.int x4), some (.int x5), none, none, none, none, none, none], [], (iq_sh l, (iq_upI I 99 5 (((I 99 5) + (1 : Int32)) - ((I 99 5) + (1 : Int32)) / (7 : Int32) * (7 : Int32))), J, X))) (fun _ => rfl) ?_
  obtain ⟨I9, eI9, h⟩ := ir_letG h
  rw [← eI9]
  clear eI9
  refine iq_G_go (k := 2) (σ' := (58, [some (.ref 76), none, some (.int x2), some (.int x3), some (.int x4), some (.int (x5 + (1 : Int32))), none, none, none, none, none, none], [], (iq_sh l, I9, J, X))) (fun _ => rfl) ?_
  cases h
  exact iq_G_fg (L := [some (.ref 76), none, some (.int x2), some (.int x3), some (.int x4), some (.int (x5 + (1 : Int32))), none, none, none, none, none, none]) (And.intro rfl (And.intro rfl (And.intro rfl (And.intro rfl (And.intro rfl trivial))))) (hc (x4, (x5 + (1 : Int32)), I9) rfl)
set_option maxRecDepth 100000 in
theorem zM_season_l140_bok (l : Nat)  (x2 : Int32) (x3 : Int32) (x4 : Int32) (x5 : Int32) (x6 : Int32) (x7 : Int32) (x10 : Int32) (J : iq_J) (X : iq_X) (x9 : Int32) (x11 : Int32) (I : iq_I) {q : (Int32 × Int32 × iq_I) ⊕ (Int32 × iq_I)} (h : zM_season_l140_b x2 x3 x4 x5 x6 x7 x10 x9 x11 I = some q) (r : iq_R × iq_M) (hc : ∀ v, q = .inl v → iq_Gg 6 308 (140, [some (.ref 76), none, some (.int x2), some (.int x3), some (.int x4), some (.int x5), some (.int x6), some (.int x7), none, some (.int v.1), some (.int x10), some (.int v.2.1)], [], (iq_sh l, v.2.2, J, X)) r) (hx : ∀ w, q = .inr w → iq_Gg 6 308 (188, [some (.ref 76), none, some (.int x2), some (.int x3), some (.int x4), some (.int x5), some (.int x6), none, none, none, none, some (.int w.1)], [], (iq_sh l, w.2, J, X)) r) : iq_Gg 6 308 (140, [some (.ref 76), none, some (.int x2), some (.int x3), some (.int x4), some (.int x5), some (.int x6), some (.int x7), none, some (.int x9), some (.int x10), some (.int x11)], [], (iq_sh l, I, J, X)) r := by
  unfold zM_season_l140_b at h
  refine iq_G_go (k := 8) (σ' := (155, [some (.ref 76), none, some (.int x2), some (.int x3), some (.int x4), some (.int x5), some (.int x6), some (.int x7), none, some (.int x9), some (.int x10), some (.int x11)], [.int x11, .int x10, .int x6, .int x7, .ref 99, .ref 76, .int x9], (iq_sh l, I, J, X))) (fun _ => rfl) ?_
  obtain ⟨q12, hq12, h⟩ := iq_bnd h
  refine iq_G_call (σ' := (158, [some (.ref 76), none, some (.int x2), some (.int x3), some (.int x4), some (.int x5), some (.int x6), some (.int x7), none, some (.int x9), some (.int x10), some (.int x11)], [.int q12.1, .int x9], (iq_sh l, q12.2, J, X))) (fun _ => rfl) (zM_weight_76_99_ok l x7 x6 x10 x11 I J X hq12) rfl rfl ?_
  rcases iq_ite h with ⟨hc_, h⟩ | ⟨hc_, h⟩
  · refine iq_G_pos (c := x9 < q12.1) (σ1 := (188, [some (.ref 76), none, some (.int x2), some (.int x3), some (.int x4), some (.int x5), some (.int x6), some (.int x7), none, some (.int x9), some (.int x10), some (.int x11)], [], (iq_sh l, q12.2, J, X))) (fun _ => rfl) hc_ ?_
    cases h
    exact iq_G_fg (L := [some (.ref 76), none, some (.int x2), some (.int x3), some (.int x4), some (.int x5), some (.int x6), none, none, none, none, some (.int x11)]) (And.intro rfl (And.intro rfl (And.intro rfl (And.intro rfl (And.intro rfl (And.intro rfl (And.intro rfl trivial))))))) (hx (x11, q12.2) rfl)
  · refine iq_G_neg (c := x9 < q12.1) (σ1 := (161, [some (.ref 76), none, some (.int x2), some (.int x3), some (.int x4), some (.int x5), some (.int x6), some (.int x7), none, some (.int x9), some (.int x10), some (.int x11)], [], (iq_sh l, q12.2, J, X))) (fun _ => rfl) hc_ ?_
    refine iq_G_go (k := 8) (σ' := (176, [some (.ref 76), none, some (.int x2), some (.int x3), some (.int x4), some (.int x5), some (.int x6), some (.int x7), none, some (.int x9), some (.int x10), some (.int x11)], [.int x11, .int x10, .int x6, .int x7, .ref 99, .ref 76, .int x9], (iq_sh l, q12.2, J, X))) (fun _ => rfl) ?_
    obtain ⟨q13, hq13, h⟩ := iq_bnd h
    refine iq_G_call (σ' := (179, [some (.ref 76), none, some (.int x2), some (.int x3), some (.int x4), some (.int x5), some (.int x6), some (.int x7), none, some (.int x9), some (.int x10), some (.int x11)], [.int q13.1, .int x9], (iq_sh l, q13.2, J, X))) (fun _ => rfl) (zM_weight_76_99_ok l x7 x6 x10 x11 q12.2 J X hq13) rfl rfl ?_
    refine iq_G_go (k := 4) (σ' := (140, [some (.ref 76), none, some (.int x2), some (.int x3), some (.int x4), some (.int x5), some (.int x6), some (.int x7), none, some (.int (x9 - q13.1)), some (.int x10), some (.int (x11 + (1 : Int32)))], [], (iq_sh l, q13.2, J, X))) (fun _ => rfl) ?_
    cases h
    exact iq_G_fg (L := [some (.ref 76), none, some (.int x2), some (.int x3), some (.int x4), some (.int x5), some (.int x6), some (.int x7), none, some (.int (x9 - q13.1)), some (.int x10), some (.int (x11 + (1 : Int32)))]) (And.intro rfl (And.intro rfl (And.intro rfl (And.intro rfl (And.intro rfl (And.intro rfl (And.intro rfl (And.intro rfl (And.intro rfl (And.intro rfl trivial)))))))))) (hc ((x9 - q13.1), (x11 + (1 : Int32)), q13.2) rfl)
set_option maxRecDepth 100000 in
theorem zM_season_l140_ok (l : Nat)  (x2 : Int32) (x3 : Int32) (x4 : Int32) (x5 : Int32) (x6 : Int32) (x7 : Int32) (x10 : Int32) (J : iq_J) (X : iq_X) {n : Nat} {v : Int32 × Int32 × iq_I} {w : Int32 × iq_I} (h : zM_season_l140 x2 x3 x4 x5 x6 x7 x10 n v = some w) (r : iq_R × iq_M) (hq : iq_Gg 6 308 (188, [some (.ref 76), none, some (.int x2), some (.int x3), some (.int x4), some (.int x5), some (.int x6), none, none, none, none, some (.int w.1)], [], (iq_sh l, w.2, J, X)) r) : iq_Gg 6 308 (140, [some (.ref 76), none, some (.int x2), some (.int x3), some (.int x4), some (.int x5), some (.int x6), some (.int x7), none, some (.int v.1), some (.int x10), some (.int v.2.1)], [], (iq_sh l, v.2.2, J, X)) r :=
  iq_lp_ok (σ := fun v => (140, [some (.ref 76), none, some (.int x2), some (.int x3), some (.int x4), some (.int x5), some (.int x6), some (.int x7), none, some (.int v.1), some (.int x10), some (.int v.2.1)], [], (iq_sh l, v.2.2, J, X))) (Q := fun w r => iq_Gg 6 308 (188, [some (.ref 76), none, some (.int x2), some (.int x3), some (.int x4), some (.int x5), some (.int x6), none, none, none, none, some (.int w.1)], [], (iq_sh l, w.2, J, X)) r) (fun v q hv r h1 h2 => zM_season_l140_bok l x2 x3 x4 x5 x6 x7 x10 J X v.1 v.2.1 v.2.2 hv r h1 h2) h r hq
set_option maxRecDepth 100000 in
theorem zM_season_l58_bok (l : Nat)  (x2 : Int32) (x3 : Int32) (J : iq_J) (X : iq_X) (x4 : Int32) (x5 : Int32) (I : iq_I) {q : (Int32 × Int32 × iq_I) ⊕ (Int32 × iq_I)} (h : zM_season_l58_b x2 x3 x4 x5 I = some q) (r : iq_R × iq_M) (hc : ∀ v, q = .inl v → iq_Gg 6 308 (58, [some (.ref 76), none, some (.int x2), some (.int x3), some (.int v.1), some (.int v.2.1), none, none, none, none, none, none], [], (iq_sh l, v.2.2, J, X)) r) (hx : ∀ w, q = .inr w → iq_Gg 6 308 (233, [some (.ref 76), none, none, some (.int x3), some (.int w.1), none, none, none, none, none, none, none], [], (iq_sh l, w.2, J, X)) r) : iq_Gg 6 308 (58, [some (.ref 76), none, some (.int x2), some (.int x3), some (.int x4), some (.int x5), none, none, none, none, none, none], [], (iq_sh l, I, J, X)) r := by
  unfold zM_season_l58_b at h
  refine iq_G_go (k := 2) (σ' := (61, [some (.ref 76), none, some (.int x2), some (.int x3), some (.int x4), some (.int x5), none, none, none, none, none, none], [.int x2, .int x5], (iq_sh l, I, J, X))) (fun _ => rfl) ?_
  rcases iq_ite h with ⟨hc_, h⟩ | ⟨hc_, h⟩
  · refine iq_G_pos (c := x2 ≤ x5) (σ1 := (233, [some (.ref 76), none, some (.int x2), some (.int x3), some (.int x4), some (.int x5), none, none, none, none, none, none], [], (iq_sh l, I, J, X))) (fun _ => rfl) hc_ ?_
    cases h
    exact iq_G_fg (L := [some (.ref 76), none, none, some (.int x3), some (.int x4), none, none, none, none, none, none, none]) (And.intro rfl (And.intro rfl (And.intro rfl trivial))) (hx (x4, I) rfl)
  · refine iq_G_neg (c := x2 ≤ x5) (σ1 := (64, [some (.ref 76), none, some (.int x2), some (.int x3), some (.int x4), some (.int x5), none, none, none, none, none, none], [], (iq_sh l, I, J, X))) (fun _ => rfl) hc_ ?_
    refine iq_G_go (k := 2) (σ' := (68, [some (.ref 76), none, some (.int x2), some (.int x3), some (.int x4), some (.int x5), none, none, none, none, none, none], [.int (I 76 5)], (iq_sh l, I, J, X))) (fun _ => rfl) ?_
    rcases iq_ite h with ⟨hc_, h⟩ | ⟨hc_, h⟩
    · refine iq_G_pos (c := (I 76 5) ≤ 0) (σ1 := (233, [some (.ref 76), none, some (.int x2), some (.int x3), some (.int x4), some (.int x5), none, none, none, none, none, none], [], (iq_sh l, I, J, X))) (fun _ => rfl) hc_ ?_
      cases h
      exact iq_G_fg (L := [some (.ref 76), none, none, some (.int x3), some (.int x4), none, none, none, none, none, none, none]) (And.intro rfl (And.intro rfl (And.intro rfl trivial))) (hx (x4, I) rfl)
    · refine iq_G_neg (c := (I 76 5) ≤ 0) (σ1 := (71, [some (.ref 76), none, some (.int x2), some (.int x3), some (.int x4), some (.int x5), none, none, none, none, none, none], [], (iq_sh l, I, J, X))) (fun _ => rfl) hc_ ?_
      refine iq_G_go (k := 2) (σ' := (75, [some (.ref 76), none, some (.int x2), some (.int x3), some (.int x4), some (.int x5), none, none, none, none, none, none], [.int (I 76 4)], (iq_sh l, I, J, X))) (fun _ => rfl) ?_
      rcases iq_ite h with ⟨hc_, h⟩ | ⟨hc_, h⟩
      · refine iq_G_pos (c := (I 76 4) ≤ 0) (σ1 := (233, [some (.ref 76), none, some (.int x2), some (.int x3), some (.int x4), some (.int x5), none, none, none, none, none, none], [], (iq_sh l, I, J, X))) (fun _ => rfl) hc_ ?_
        cases h
        exact iq_G_fg (L := [some (.ref 76), none, none, some (.int x3), some (.int x4), none, none, none, none, none, none, none]) (And.intro rfl (And.intro rfl (And.intro rfl trivial))) (hx (x4, I) rfl)
      · refine iq_G_neg (c := (I 76 4) ≤ 0) (σ1 := (78, [some (.ref 76), none, some (.int x2), some (.int x3), some (.int x4), some (.int x5), none, none, none, none, none, none], [], (iq_sh l, I, J, X))) (fun _ => rfl) hc_ ?_
        refine iq_G_go (k := 3) (σ' := (83, [some (.ref 76), none, some (.int x2), some (.int x3), some (.int x4), some (.int x5), none, none, none, none, none, none], [.int (I 76 5), .ref 76], (iq_sh l, I, J, X))) (fun _ => rfl) ?_
        obtain ⟨q6, hq6, h⟩ := iq_bnd h
        refine iq_G_call (σ' := (86, [some (.ref 76), none, some (.int x2), some (.int x3), some (.int x4), some (.int x5), none, none, none, none, none, none], [.int q6.1], (iq_sh l, q6.2, J, X))) (fun _ => rfl) (zM_draw_ok l (I 76 5) I J X hq6) rfl rfl ?_
        refine iq_G_go (k := 4) (σ' := (93, [some (.ref 76), none, some (.int x2), some (.int x3), some (.int x4), some (.int x5), some (.int q6.1), none, none, none, none, none], [.int (q6.2 76 4), .ref 76], (iq_sh l, q6.2, J, X))) (fun _ => rfl) ?_
        obtain ⟨q7, hq7, h⟩ := iq_bnd h
        refine iq_G_call (σ' := (96, [some (.ref 76), none, some (.int x2), some (.int x3), some (.int x4), some (.int x5), some (.int q6.1), none, none, none, none, none], [.int q7.1], (iq_sh l, q7.2, J, X))) (fun _ => rfl) (zM_draw_ok l (q6.2 76 4) q6.2 J X hq7) rfl rfl ?_
        refine iq_G_go (k := 6) (σ' := (107, [some (.ref 76), none, some (.int x2), some (.int x3), some (.int x4), some (.int x5), some (.int q6.1), some (.int q7.1), none, none, none, none], [.int q6.1, .int q7.1, .ref 99, .ref 76], (iq_sh l, q7.2, J, X))) (fun _ => rfl) ?_
        obtain ⟨q8, hq8, h⟩ := iq_bnd h
        refine iq_G_call (σ' := (110, [some (.ref 76), none, some (.int x2), some (.int x3), some (.int x4), some (.int x5), some (.int q6.1), some (.int q7.1), none, none, none, none], [.int q8.1], (iq_sh l, q8.2, J, X))) (fun _ => rfl) (zM_weights_76_99_ok l q7.1 q6.1 q7.2 J X hq8) rfl rfl ?_
        refine iq_G_go (k := 2) (σ' := (114, [some (.ref 76), none, some (.int x2), some (.int x3), some (.int x4), some (.int x5), some (.int q6.1), some (.int q7.1), some (.int q8.1), none, none, none], [.int q8.1], (iq_sh l, q8.2, J, X))) (fun _ => rfl) ?_
        rcases iq_ite h with ⟨hc_, h⟩ | ⟨hc_, h⟩
        · refine iq_G_pos (c := q8.1 ≤ 0) (σ1 := (210, [some (.ref 76), none, some (.int x2), some (.int x3), some (.int x4), some (.int x5), some (.int q6.1), some (.int q7.1), some (.int q8.1), none, none, none], [], (iq_sh l, q8.2, J, X))) (fun _ => rfl) hc_ ?_
          exact iq_G_fg (L := [some (.ref 76), none, some (.int x2), some (.int x3), some (.int x4), some (.int x5), none, none, none, none, none, none]) (And.intro rfl (And.intro rfl (And.intro rfl (And.intro rfl (And.intro rfl trivial))))) (zM_season_210_ok l x2 x3 x4 x5 q8.2 J X  h r hc hx)
        · refine iq_G_neg (c := q8.1 ≤ 0) (σ1 := (117, [some (.ref 76), none, some (.int x2), some (.int x3), some (.int x4), some (.int x5), some (.int q6.1), some (.int q7.1), some (.int q8.1), none, none, none], [], (iq_sh l, q8.2, J, X))) (fun _ => rfl) hc_ ?_
          refine iq_G_go (k := 2) (σ' := (120, [some (.ref 76), none, some (.int x2), some (.int x3), some (.int x4), some (.int x5), some (.int q6.1), some (.int q7.1), some (.int q8.1), none, none, none], [.int q8.1, .ref 76], (iq_sh l, q8.2, J, X))) (fun _ => rfl) ?_
          obtain ⟨q10, hq10, h⟩ := iq_bnd h
          refine iq_G_call (σ' := (123, [some (.ref 76), none, some (.int x2), some (.int x3), some (.int x4), some (.int x5), some (.int q6.1), some (.int q7.1), some (.int q8.1), none, none, none], [.int q10.1], (iq_sh l, q10.2, J, X))) (fun _ => rfl) (zM_draw_ok l q8.1 q8.2 J X hq10) rfl rfl ?_
          refine iq_G_go (k := 5) (σ' := (132, [some (.ref 76), none, some (.int x2), some (.int x3), some (.int x4), some (.int x5), some (.int q6.1), some (.int q7.1), some (.int q8.1), some (.int q10.1), none, none], [.int q6.1, .ref 99, .ref 76], (iq_sh l, q10.2, J, X))) (fun _ => rfl) ?_
          obtain ⟨q11, hq11, h⟩ := iq_bnd h
          refine iq_G_call (σ' := (135, [some (.ref 76), none, some (.int x2), some (.int x3), some (.int x4), some (.int x5), some (.int q6.1), some (.int q7.1), some (.int q8.1), some (.int q10.1), none, none], [.int q11], (iq_sh l, q10.2, J, X))) (fun _ => rfl) (zM_stateNow_76_99_ok l q6.1 q10.2 J X hq11) rfl rfl ?_
          refine iq_G_go (k := 3) (σ' := (140, [some (.ref 76), none, some (.int x2), some (.int x3), some (.int x4), some (.int x5), some (.int q6.1), some (.int q7.1), some (.int q8.1), some (.int q10.1), some (.int q11), some (.int (0 : Int32))], [], (iq_sh l, q10.2, J, X))) (fun _ => rfl) ?_
          obtain ⟨w14, hw14, h⟩ := iq_bnd h
          refine iq_G_fg (L := [some (.ref 76), none, some (.int x2), some (.int x3), some (.int x4), some (.int x5), some (.int q6.1), some (.int q7.1), none, some (.int q10.1), some (.int q11), some (.int (0 : Int32))]) (And.intro rfl (And.intro rfl (And.intro rfl (And.intro rfl (And.intro rfl (And.intro rfl (And.intro rfl (And.intro rfl (And.intro rfl (And.intro rfl trivial)))))))))) ?_
          refine zM_season_l140_ok l x2 x3 x4 x5 q6.1 q7.1 q11 J X hw14 _ ?_
          show iq_Gg 6 308 (188, [some (.ref 76), none, some (.int x2), some (.int x3), some (.int x4), some (.int x5), some (.int q6.1), none, none, none, none, some (.int w14.1)], [], (iq_sh l, w14.2, J, X)) _
          refine iq_G_go (k := 7) (σ' := (201, [some (.ref 76), none, some (.int x2), some (.int x3), some (.int x4), some (.int x5), some (.int q6.1), none, none, none, none, some (.int w14.1)], [.int q6.1, .ref 99, .int q6.1, .ref 99, .ref 76], (iq_sh l, w14.2, J, X))) (fun _ => rfl) ?_
          obtain ⟨hc_, h⟩ := iq_itn h
          refine iq_G_pos (c := iq_in q6.1 206) (σ1 := (202, [some (.ref 76), none, some (.int x2), some (.int x3), some (.int x4), some (.int x5), some (.int q6.1), none, none, none, none, some (.int w14.1)], [.int (w14.2 99 (Int32.toNatClampNeg q6.1)), .int q6.1, .ref 99, .ref 76], (iq_sh l, w14.2, J, X))) (fun _ => rfl) hc_ ?_
          refine iq_G_go (k := 1) (σ' := (204, [some (.ref 76), none, some (.int x2), some (.int x3), some (.int x4), some (.int x5), some (.int q6.1), none, none, none, none, some (.int w14.1)], [.int w14.1, .int (w14.2 99 (Int32.toNatClampNeg q6.1)), .int q6.1, .ref 99, .ref 76], (iq_sh l, w14.2, J, X))) (fun _ => rfl) ?_
          obtain ⟨q15, hq15, h⟩ := iq_bnd h
          refine iq_G_call (σ' := (207, [some (.ref 76), none, some (.int x2), some (.int x3), some (.int x4), some (.int x5), some (.int q6.1), none, none, none, none, some (.int w14.1)], [], (iq_sh l, q15, J, X))) (fun _ => rfl) (zM_puts0_76_99_ok l q6.1 (w14.2 99 (Int32.toNatClampNeg q6.1)) w14.1 w14.2 J X hq15) rfl rfl ?_
          refine iq_G_go (k := 1) (σ' := (210, [some (.ref 76), none, some (.int x2), some (.int x3), some (.int (x4 + (1 : Int32))), some (.int x5), some (.int q6.1), none, none, none, none, some (.int w14.1)], [], (iq_sh l, q15, J, X))) (fun _ => rfl) ?_
          exact iq_G_fg (L := [some (.ref 76), none, some (.int x2), some (.int x3), some (.int (x4 + (1 : Int32))), some (.int x5), none, none, none, none, none, none]) (And.intro rfl (And.intro rfl (And.intro rfl (And.intro rfl (And.intro rfl trivial))))) (zM_season_210_ok l x2 x3 (x4 + (1 : Int32)) x5 q15 J X  h r hc hx)
set_option maxRecDepth 100000 in
theorem zM_season_l58_ok (l : Nat)  (x2 : Int32) (x3 : Int32) (J : iq_J) (X : iq_X) {n : Nat} {v : Int32 × Int32 × iq_I} {w : Int32 × iq_I} (h : zM_season_l58 x2 x3 n v = some w) (r : iq_R × iq_M) (hq : iq_Gg 6 308 (233, [some (.ref 76), none, none, some (.int x3), some (.int w.1), none, none, none, none, none, none, none], [], (iq_sh l, w.2, J, X)) r) : iq_Gg 6 308 (58, [some (.ref 76), none, some (.int x2), some (.int x3), some (.int v.1), some (.int v.2.1), none, none, none, none, none, none], [], (iq_sh l, v.2.2, J, X)) r :=
  iq_lp_ok (σ := fun v => (58, [some (.ref 76), none, some (.int x2), some (.int x3), some (.int v.1), some (.int v.2.1), none, none, none, none, none, none], [], (iq_sh l, v.2.2, J, X))) (Q := fun w r => iq_Gg 6 308 (233, [some (.ref 76), none, none, some (.int x3), some (.int w.1), none, none, none, none, none, none, none], [], (iq_sh l, w.2, J, X)) r) (fun v q hv r h1 h2 => zM_season_l58_bok l x2 x3 J X v.1 v.2.1 v.2.2 hv r h1 h2) h r hq
set_option maxRecDepth 100000 in
theorem zM_season_233_ok (l : Nat)  (x3 : Int32) (x4 : Int32) (I : iq_I) (J : iq_J) (X : iq_X)  {q : Int32 × iq_I} (h : zM_season_233 x3 x4 I = some q)  : iq_Gg 6 308 (233, [some (.ref 76), none, none, some (.int x3), some (.int x4), none, none, none, none, none, none, none], [], (iq_sh l, I, J, X)) (.inl (some (.int q.1)), (iq_sh l, q.2, J, X)) := by
  unfold zM_season_233 at h
  refine iq_G_go (k := 2) (σ' := (235, [some (.ref 76), none, none, some (.int x3), some (.int x4), none, none, none, none, none, none, none], [.int (-1 : Int32), .int x3], (iq_sh l, I, J, X))) (fun _ => rfl) ?_
  rcases iq_ite h with ⟨hc_, h⟩ | ⟨hc_, h⟩
  · refine iq_G_pos (c := ¬ x3 = (-1 : Int32)) (σ1 := (243, [some (.ref 76), none, none, some (.int x3), some (.int x4), none, none, none, none, none, none, none], [], (iq_sh l, I, J, X))) (fun _ => rfl) hc_ ?_
    refine iq_G_go (k := 3) (σ' := (248, [some (.ref 76), none, none, some (.int x3), some (.int x4), none, none, none, none, none, none, none], [.int x3, .ref 99], (iq_sh l, I, J, X))) (fun _ => rfl) ?_
    obtain ⟨hc_, h⟩ := iq_itn h
    refine iq_G_pos (c := iq_in x3 206) (σ1 := (249, [some (.ref 76), none, none, some (.int x3), some (.int x4), none, none, none, none, none, none, none], [.int (I 99 (Int32.toNatClampNeg x3))], (iq_sh l, I, J, X))) (fun _ => rfl) hc_ ?_
    cases h
    exact iq_G_ret (fun _ => rfl)
  · refine iq_G_neg (c := ¬ x3 = (-1 : Int32)) (σ1 := (238, [some (.ref 76), none, none, some (.int x3), some (.int x4), none, none, none, none, none, none, none], [], (iq_sh l, I, J, X))) (fun _ => rfl) hc_ ?_
    refine iq_G_go (k := 2) (σ' := (249, [some (.ref 76), none, none, some (.int x3), some (.int x4), none, none, none, none, none, none, none], [.int x4], (iq_sh l, I, J, X))) (fun _ => rfl) ?_
    cases h
    exact iq_G_ret (fun _ => rfl)
set_option maxRecDepth 100000 in
theorem zM_season_18_ok (l : Nat)  (x1 : Int32) (x2 : Int32) (x3 : Int32) (I : iq_I) (J : iq_J) (X : iq_X)  {q : Int32 × iq_I} (h : zM_season_18 x1 x2 x3 I = some q)  : iq_Gg 6 308 (18, [some (.ref 76), some (.int x1), some (.int x2), some (.int x3), none, none, none, none, none, none, none, none], [], (iq_sh l, I, J, X)) (.inl (some (.int q.1)), (iq_sh l, q.2, J, X)) := by
  unfold zM_season_18 at h
  refine iq_G_go (k := 4) (σ' := (23, [some (.ref 76), some (.int x1), some (.int x2), some (.int x3), none, none, none, none, none, none, none, none], [.int (60 : Int32), .int (0 : Int32), .int x2, .ref 76], (iq_sh l, I, J, X))) (fun _ => rfl) ?_
  obtain ⟨q2, hq2, h⟩ := iq_bnd h
  refine iq_G_call (σ' := (26, [some (.ref 76), some (.int x1), some (.int x2), some (.int x3), none, none, none, none, none, none, none, none], [.int q2, .ref 76], (iq_sh l, I, J, X))) (fun _ => rfl) (zM_within_ok l x2 (0 : Int32) (60 : Int32) I J X hq2) rfl rfl ?_
  refine iq_G_go (k := 1) (σ' := (27, [some (.ref 76), some (.int x1), some (.int x2), some (.int x3), none, none, none, none, none, none, none, none], [.int (2 : Int32), .int q2, .ref 76], (iq_sh l, I, J, X))) (fun _ => rfl) ?_
  obtain ⟨q3, hq3, h⟩ := iq_bnd h
  refine iq_G_call (σ' := (30, [some (.ref 76), some (.int x1), some (.int x2), some (.int x3), none, none, none, none, none, none, none, none], [.int q3.1], (iq_sh l, q3.2, J, X))) (fun _ => rfl) (zM_right_ok l q2 (2 : Int32) I J X hq3) rfl rfl ?_
  rcases iq_ite h with ⟨hc_, h⟩ | ⟨hc_, h⟩
  · refine iq_G_pos (c := ¬ q3.1 = 0) (σ1 := (35, [some (.ref 76), some (.int x1), some (.int x2), some (.int x3), none, none, none, none, none, none, none, none], [], (iq_sh l, q3.2, J, X))) (fun _ => rfl) hc_ ?_
    refine iq_G_go (k := 5) (σ' := (44, [some (.ref 76), some (.int x1), some (.int x2), some (.int x3), none, none, none, none, none, none, none, none], [.ref 99, .ref 98, .ref 76], (iq_sh l, q3.2, J, X))) (fun _ => rfl) ?_
    obtain ⟨q4, hq4, h⟩ := iq_bnd h
    refine iq_G_call (σ' := (47, [some (.ref 76), some (.int x1), some (.int x2), some (.int x3), none, none, none, none, none, none, none, none], [], (iq_sh l, q4, J, X))) (fun _ => rfl) (zM_copies_76_98_99_ok l  q3.2 J X hq4) rfl rfl ?_
    refine iq_G_go (k := 2) (σ' := (49, [some (.ref 76), some (.int x1), some (.int x2), some (.int x3), none, none, none, none, none, none, none, none], [.int x1, .ref 76], (iq_sh l, q4, J, X))) (fun _ => rfl) ?_
    refine iq_G_go (k := 1) (σ' := (52, [some (.ref 76), some (.int x1), some (.int x2), some (.int x3), none, none, none, none, none, none, none, none], [], (iq_sh l, (iq_upI q4 76 67 x1), J, X))) (fun _ => rfl) ?_
    obtain ⟨I5, eI5, h⟩ := ir_letG h
    rw [← eI5]
    clear eI5
    refine iq_G_go (k := 4) (σ' := (58, [some (.ref 76), some (.int x1), some (.int x2), some (.int x3), some (.int (0 : Int32)), some (.int (0 : Int32)), none, none, none, none, none, none], [], (iq_sh l, I5, J, X))) (fun _ => rfl) ?_
    obtain ⟨w16, hw16, h⟩ := iq_bnd h
    refine iq_G_fg (L := [some (.ref 76), none, some (.int x2), some (.int x3), some (.int (0 : Int32)), some (.int (0 : Int32)), none, none, none, none, none, none]) (And.intro rfl (And.intro rfl (And.intro rfl (And.intro rfl (And.intro rfl trivial))))) ?_
    refine zM_season_l58_ok l x2 x3 J X hw16 _ ?_
    show iq_Gg 6 308 (233, [some (.ref 76), none, none, some (.int x3), some (.int w16.1), none, none, none, none, none, none, none], [], (iq_sh l, w16.2, J, X)) _
    exact iq_G_fg (L := [some (.ref 76), none, none, some (.int x3), some (.int w16.1), none, none, none, none, none, none, none]) (And.intro rfl (And.intro rfl (And.intro rfl trivial))) (zM_season_233_ok l x3 w16.1 w16.2 J X  h )
  · refine iq_G_neg (c := ¬ q3.1 = 0) (σ1 := (33, [some (.ref 76), some (.int x1), some (.int x2), some (.int x3), none, none, none, none, none, none, none, none], [], (iq_sh l, q3.2, J, X))) (fun _ => rfl) hc_ ?_
    refine iq_G_go (k := 1) (σ' := (34, [some (.ref 76), some (.int x1), some (.int x2), some (.int x3), none, none, none, none, none, none, none, none], [.int (0 : Int32)], (iq_sh l, q3.2, J, X))) (fun _ => rfl) ?_
    cases h
    exact iq_G_ret (fun _ => rfl)
set_option maxRecDepth 100000 in
theorem zM_season_ok (l : Nat)  (x1 : Int32) (x2 : Int32) (x3 : Int32) (I : iq_I) (J : iq_J) (X : iq_X) {q : Int32 × iq_I} (h : zM_season x1 x2 x3 I = some q) : iq_Cc 7 308 [.ref 76, .int x1, .int x2, .int x3] (iq_sh l, I, J, X) (.inl (some (.int q.1)), (iq_sh l, q.2, J, X)) := by
  refine iq_Cc_of (L := [some (.ref 76), some (.int x1), some (.int x2), some (.int x3), none, none, none, none, none, none, none, none]) rfl rfl ?_
  unfold zM_season at h
  refine iq_G_go (k := 2) (σ' := (2, [some (.ref 76), some (.int x1), some (.int x2), some (.int x3), none, none, none, none, none, none, none, none], [.int (0 : Int32), .ref 76], (iq_sh l, I, J, X))) (fun _ => rfl) ?_
  refine iq_G_go (k := 1) (σ' := (5, [some (.ref 76), some (.int x1), some (.int x2), some (.int x3), none, none, none, none, none, none, none, none], [], (iq_sh l, (iq_upI I 76 0 (0 : Int32)), J, X))) (fun _ => rfl) ?_
  obtain ⟨I1, eI1, h⟩ := ir_letG h
  rw [← eI1]
  clear eI1
  refine iq_G_go (k := 2) (σ' := (7, [some (.ref 76), some (.int x1), some (.int x2), some (.int x3), none, none, none, none, none, none, none, none], [.int (-1 : Int32), .int x3], (iq_sh l, I1, J, X))) (fun _ => rfl) ?_
  rcases iq_ite h with ⟨hc_, h⟩ | ⟨hc_, h⟩
  · refine iq_G_pos (c := x3 = (-1 : Int32)) (σ1 := (18, [some (.ref 76), some (.int x1), some (.int x2), some (.int x3), none, none, none, none, none, none, none, none], [], (iq_sh l, I1, J, X))) (fun _ => rfl) hc_ ?_
    exact iq_G_fg (L := [some (.ref 76), some (.int x1), some (.int x2), some (.int x3), none, none, none, none, none, none, none, none]) (And.intro rfl (And.intro rfl (And.intro rfl (And.intro rfl trivial)))) (zM_season_18_ok l x1 x2 x3 I1 J X  h )
  · refine iq_G_neg (c := x3 = (-1 : Int32)) (σ1 := (10, [some (.ref 76), some (.int x1), some (.int x2), some (.int x3), none, none, none, none, none, none, none, none], [], (iq_sh l, I1, J, X))) (fun _ => rfl) hc_ ?_
    refine iq_G_go (k := 2) (σ' := (12, [some (.ref 76), some (.int x1), some (.int x2), some (.int x3), none, none, none, none, none, none, none, none], [.int x3, .ref 76], (iq_sh l, I1, J, X))) (fun _ => rfl) ?_
    obtain ⟨q17, hq17, h⟩ := iq_bnd h
    refine iq_G_call (σ' := (15, [some (.ref 76), some (.int x1), some (.int x2), some (.int x3), none, none, none, none, none, none, none, none], [.int q17.1], (iq_sh l, q17.2, J, X))) (fun _ => rfl) (zM_isSaying_ok l x3 I1 J X hq17) rfl rfl ?_
    rcases iq_ite h with ⟨hc_, h⟩ | ⟨hc_, h⟩
    · refine iq_G_pos (c := q17.1 = 0) (σ1 := (33, [some (.ref 76), some (.int x1), some (.int x2), some (.int x3), none, none, none, none, none, none, none, none], [], (iq_sh l, q17.2, J, X))) (fun _ => rfl) hc_ ?_
      refine iq_G_go (k := 1) (σ' := (34, [some (.ref 76), some (.int x1), some (.int x2), some (.int x3), none, none, none, none, none, none, none, none], [.int (0 : Int32)], (iq_sh l, q17.2, J, X))) (fun _ => rfl) ?_
      cases h
      exact iq_G_ret (fun _ => rfl)
    · refine iq_G_neg (c := q17.1 = 0) (σ1 := (18, [some (.ref 76), some (.int x1), some (.int x2), some (.int x3), none, none, none, none, none, none, none, none], [], (iq_sh l, q17.2, J, X))) (fun _ => rfl) hc_ ?_
      exact iq_G_fg (L := [some (.ref 76), some (.int x1), some (.int x2), some (.int x3), none, none, none, none, none, none, none, none]) (And.intro rfl (And.intro rfl (And.intro rfl (And.intro rfl trivial)))) (zM_season_18_ok l x1 x2 x3 q17.2 J X  h )
set_option maxRecDepth 100000 in
theorem zW_wouldHeal_ok (l : Nat)  (x2 : Int32) (x3 : Int32) (I : iq_I) (J : iq_J) (X : iq_X) {q : Int32} (h : zW_wouldHeal x2 x3 I = some q) : iq_Cc 3 117 [.ref 72, .ref 16, .int x2, .int x3] (iq_sh l, I, J, X) (.inl (some (.int q)), (iq_sh l, I, J, X)) := by
  refine iq_Cc_of (L := [some (.ref 72), some (.ref 16), some (.int x2), some (.int x3)]) rfl rfl ?_
  unfold zW_wouldHeal at h
  refine iq_G_go (k := 6) (σ' := (8, [some (.ref 72), some (.ref 16), some (.int x2), some (.int x3)], [.int x2, .ref 16, .int x2, .ref 16, .ref 4], (iq_sh l, I, J, X))) (fun _ => rfl) ?_
  obtain ⟨q1, hq1, h⟩ := iq_bnd h
  refine iq_G_call (σ' := (11, [some (.ref 72), some (.ref 16), some (.int x2), some (.int x3)], [.int q1, .int x2, .ref 16, .ref 4], (iq_sh l, I, J, X))) (fun _ => rfl) (zG_beginOf_16_ok l x2 I J X hq1) rfl rfl ?_
  refine iq_G_go (k := 1) (σ' := (12, [some (.ref 72), some (.ref 16), some (.int x2), some (.int x3)], [.int x3, .int q1, .int x2, .ref 16, .ref 4], (iq_sh l, I, J, X))) (fun _ => rfl) ?_
  obtain ⟨q2, hq2, h⟩ := iq_bnd h
  refine iq_G_call (σ' := (15, [some (.ref 72), some (.ref 16), some (.int x2), some (.int x3)], [.int q2], (iq_sh l, I, J, X))) (fun _ => rfl) (zU_stateFrom_4_16_ok l x2 q1 x3 I J X hq2) rfl rfl ?_
  refine iq_G_go (k := 1) (σ' := (16, [some (.ref 72), some (.ref 16), some (.int x2), some (.int x3)], [.int (-1 : Int32), .int q2], (iq_sh l, I, J, X))) (fun _ => rfl) ?_
  rcases iq_ite h with ⟨hc_, h⟩ | ⟨hc_, h⟩
  · refine iq_G_pos (c := q2 = (-1 : Int32)) (σ1 := (23, [some (.ref 72), some (.ref 16), some (.int x2), some (.int x3)], [], (iq_sh l, I, J, X))) (fun _ => rfl) hc_ ?_
    refine iq_G_go (k := 1) (σ' := (24, [some (.ref 72), some (.ref 16), some (.int x2), some (.int x3)], [.int (0 : Int32)], (iq_sh l, I, J, X))) (fun _ => rfl) ?_
    cases h
    exact iq_G_ret (fun _ => rfl)
  · refine iq_G_neg (c := q2 = (-1 : Int32)) (σ1 := (19, [some (.ref 72), some (.ref 16), some (.int x2), some (.int x3)], [], (iq_sh l, I, J, X))) (fun _ => rfl) hc_ ?_
    refine iq_G_go (k := 2) (σ' := (24, [some (.ref 72), some (.ref 16), some (.int x2), some (.int x3)], [.int (1 : Int32)], (iq_sh l, I, J, X))) (fun _ => rfl) ?_
    cases h
    exact iq_G_ret (fun _ => rfl)
set_option maxRecDepth 100000 in
theorem zW_countFlies_l27_bok (l : Nat)  (x2 : Int32) (x4 : Int32) (I : iq_I) (J : iq_J) (X : iq_X) (x3 : Int32) (x5 : Int32)  {q : (Int32 × Int32) ⊕ (Int32)} (h : zW_countFlies_l27_b x2 x4 I x3 x5 = some q) (r : iq_R × iq_M) (hc : ∀ v, q = .inl v → iq_Gg 3 115 (27, [some (.ref 72), some (.ref 16), some (.int x2), some (.int v.1), some (.int x4), some (.int v.2)], [], (iq_sh l, I, J, X)) r) (hx : ∀ w, q = .inr w → iq_Gg 3 115 (54, [none, none, none, some (.int w), none, none], [], (iq_sh l, I, J, X)) r) : iq_Gg 3 115 (27, [some (.ref 72), some (.ref 16), some (.int x2), some (.int x3), some (.int x4), some (.int x5)], [], (iq_sh l, I, J, X)) r := by
  unfold zW_countFlies_l27_b at h
  refine iq_G_go (k := 2) (σ' := (31, [some (.ref 72), some (.ref 16), some (.int x2), some (.int x3), some (.int x4), some (.int x5)], [.int x4, .int x5], (iq_sh l, I, J, X))) (fun _ => rfl) ?_
  rcases iq_ite h with ⟨hc_, h⟩ | ⟨hc_, h⟩
  · refine iq_G_pos (c := x4 ≤ x5) (σ1 := (54, [some (.ref 72), some (.ref 16), some (.int x2), some (.int x3), some (.int x4), some (.int x5)], [], (iq_sh l, I, J, X))) (fun _ => rfl) hc_ ?_
    cases h
    exact iq_G_fg (L := [none, none, none, some (.int x3), none, none]) (And.intro rfl trivial) (hx x3 rfl)
  · refine iq_G_neg (c := x4 ≤ x5) (σ1 := (34, [some (.ref 72), some (.ref 16), some (.int x2), some (.int x3), some (.int x4), some (.int x5)], [], (iq_sh l, I, J, X))) (fun _ => rfl) hc_ ?_
    refine iq_G_go (k := 4) (σ' := (39, [some (.ref 72), some (.ref 16), some (.int x2), some (.int x3), some (.int x4), some (.int x5)], [.int x5, .int x2, .ref 16, .ref 72], (iq_sh l, I, J, X))) (fun _ => rfl) ?_
    obtain ⟨q3, hq3, h⟩ := iq_bnd h
    refine iq_G_call (σ' := (42, [some (.ref 72), some (.ref 16), some (.int x2), some (.int x3), some (.int x4), some (.int x5)], [.int q3], (iq_sh l, I, J, X))) (fun _ => rfl) (zW_wouldHeal_ok l x2 x5 I J X hq3) rfl rfl ?_
    rcases iq_ite h with ⟨hc_, h⟩ | ⟨hc_, h⟩
    · refine iq_G_pos (c := q3 = 0) (σ1 := (48, [some (.ref 72), some (.ref 16), some (.int x2), some (.int x3), some (.int x4), some (.int x5)], [], (iq_sh l, I, J, X))) (fun _ => rfl) hc_ ?_
      refine iq_G_go (k := 2) (σ' := (27, [some (.ref 72), some (.ref 16), some (.int x2), some (.int x3), some (.int x4), some (.int (x5 + (1 : Int32)))], [], (iq_sh l, I, J, X))) (fun _ => rfl) ?_
      cases h
      exact iq_G_fg (L := [some (.ref 72), some (.ref 16), some (.int x2), some (.int x3), some (.int x4), some (.int (x5 + (1 : Int32)))]) (And.intro rfl (And.intro rfl (And.intro rfl (And.intro rfl (And.intro rfl (And.intro rfl trivial)))))) (hc (x3, (x5 + (1 : Int32))) rfl)
    · refine iq_G_neg (c := q3 = 0) (σ1 := (45, [some (.ref 72), some (.ref 16), some (.int x2), some (.int x3), some (.int x4), some (.int x5)], [], (iq_sh l, I, J, X))) (fun _ => rfl) hc_ ?_
      refine iq_G_go (k := 3) (σ' := (27, [some (.ref 72), some (.ref 16), some (.int x2), some (.int (x3 + (1 : Int32))), some (.int x4), some (.int (x5 + (1 : Int32)))], [], (iq_sh l, I, J, X))) (fun _ => rfl) ?_
      cases h
      exact iq_G_fg (L := [some (.ref 72), some (.ref 16), some (.int x2), some (.int (x3 + (1 : Int32))), some (.int x4), some (.int (x5 + (1 : Int32)))]) (And.intro rfl (And.intro rfl (And.intro rfl (And.intro rfl (And.intro rfl (And.intro rfl trivial)))))) (hc ((x3 + (1 : Int32)), (x5 + (1 : Int32))) rfl)
set_option maxRecDepth 100000 in
theorem zW_countFlies_l27_ok (l : Nat)  (x2 : Int32) (x4 : Int32) (I : iq_I) (J : iq_J) (X : iq_X) {n : Nat} {v : Int32 × Int32} {w : Int32} (h : zW_countFlies_l27 x2 x4 I n v = some w) (r : iq_R × iq_M) (hq : iq_Gg 3 115 (54, [none, none, none, some (.int w), none, none], [], (iq_sh l, I, J, X)) r) : iq_Gg 3 115 (27, [some (.ref 72), some (.ref 16), some (.int x2), some (.int v.1), some (.int x4), some (.int v.2)], [], (iq_sh l, I, J, X)) r :=
  iq_lp_ok (σ := fun v => (27, [some (.ref 72), some (.ref 16), some (.int x2), some (.int v.1), some (.int x4), some (.int v.2)], [], (iq_sh l, I, J, X))) (Q := fun w r => iq_Gg 3 115 (54, [none, none, none, some (.int w), none, none], [], (iq_sh l, I, J, X)) r) (fun v q hv r h1 h2 => zW_countFlies_l27_bok l x2 x4 I J X v.1 v.2 hv r h1 h2) h r hq
set_option maxRecDepth 100000 in
theorem zW_countFlies_ok (l : Nat)  (x2 : Int32) (I : iq_I) (J : iq_J) (X : iq_X) {q : Int32} (h : zW_countFlies x2 I = some q) : iq_Cc 4 115 [.ref 72, .ref 16, .int x2] (iq_sh l, I, J, X) (.inl (some (.int q)), (iq_sh l, I, J, X)) := by
  refine iq_Cc_of (L := [some (.ref 72), some (.ref 16), some (.int x2), none, none, none]) rfl rfl ?_
  unfold zW_countFlies at h
  refine iq_G_go (k := 4) (σ' := (6, [some (.ref 72), some (.ref 16), some (.int x2), none, none, none], [.int x2, .ref 16, .ref 4], (iq_sh l, I, J, X))) (fun _ => rfl) ?_
  obtain ⟨q1, hq1, h⟩ := iq_bnd h
  refine iq_G_call (σ' := (9, [some (.ref 72), some (.ref 16), some (.int x2), none, none, none], [.int q1], (iq_sh l, I, J, X))) (fun _ => rfl) (zU_stateOf_4_16_ok l x2 I J X hq1) rfl rfl ?_
  refine iq_G_go (k := 1) (σ' := (10, [some (.ref 72), some (.ref 16), some (.int x2), none, none, none], [.int (-1 : Int32), .int q1], (iq_sh l, I, J, X))) (fun _ => rfl) ?_
  rcases iq_ite h with ⟨hc_, h⟩ | ⟨hc_, h⟩
  · refine iq_G_pos (c := q1 = (-1 : Int32)) (σ1 := (15, [some (.ref 72), some (.ref 16), some (.int x2), none, none, none], [], (iq_sh l, I, J, X))) (fun _ => rfl) hc_ ?_
    refine iq_G_go (k := 4) (σ' := (19, [some (.ref 72), some (.ref 16), some (.int x2), some (.int (0 : Int32)), none, none], [.int x2, .ref 16], (iq_sh l, I, J, X))) (fun _ => rfl) ?_
    obtain ⟨q2, hq2, h⟩ := iq_bnd h
    refine iq_G_call (σ' := (22, [some (.ref 72), some (.ref 16), some (.int x2), some (.int (0 : Int32)), none, none], [.int q2], (iq_sh l, I, J, X))) (fun _ => rfl) (zG_lengthOf_16_ok l x2 I J X hq2) rfl rfl ?_
    refine iq_G_go (k := 3) (σ' := (27, [some (.ref 72), some (.ref 16), some (.int x2), some (.int (0 : Int32)), some (.int q2), some (.int (0 : Int32))], [], (iq_sh l, I, J, X))) (fun _ => rfl) ?_
    obtain ⟨w4, hw4, h⟩ := iq_bnd h
    refine iq_G_fg (L := [some (.ref 72), some (.ref 16), some (.int x2), some (.int (0 : Int32)), some (.int q2), some (.int (0 : Int32))]) (And.intro rfl (And.intro rfl (And.intro rfl (And.intro rfl (And.intro rfl (And.intro rfl trivial)))))) ?_
    refine zW_countFlies_l27_ok l x2 q2 I J X hw4 _ ?_
    show iq_Gg 3 115 (54, [none, none, none, some (.int w4), none, none], [], (iq_sh l, I, J, X)) _
    refine iq_G_go (k := 1) (σ' := (55, [none, none, none, some (.int w4), none, none], [.int w4], (iq_sh l, I, J, X))) (fun _ => rfl) ?_
    cases h
    exact iq_G_ret (fun _ => rfl)
  · refine iq_G_neg (c := q1 = (-1 : Int32)) (σ1 := (13, [some (.ref 72), some (.ref 16), some (.int x2), none, none, none], [], (iq_sh l, I, J, X))) (fun _ => rfl) hc_ ?_
    refine iq_G_go (k := 1) (σ' := (14, [some (.ref 72), some (.ref 16), some (.int x2), none, none, none], [.int (0 : Int32)], (iq_sh l, I, J, X))) (fun _ => rfl) ?_
    cases h
    exact iq_G_ret (fun _ => rfl)
set_option maxRecDepth 100000 in
theorem zW_firstFly_l24_bok (l : Nat)  (x2 : Int32) (x3 : Int32) (I : iq_I) (J : iq_J) (X : iq_X) (x4 : Int32)  {q : (Int32) ⊕ ((Unit) ⊕ (Int32))} (h : zW_firstFly_l24_b x2 x3 I x4 = some q) (r : iq_R × iq_M) (hc : ∀ v, q = .inl v → iq_Gg 3 116 (24, [some (.ref 72), some (.ref 16), some (.int x2), some (.int x3), some (.int v)], [], (iq_sh l, I, J, X)) r) (hx : ∀ w, q = .inr w → (∀ a, w = .inl a → iq_Gg 3 116 (50, [none, none, none, none, none], [], (iq_sh l, I, J, X)) r) ∧ (∀ b, w = .inr b → r = (.inl (some (.int b)), (iq_sh l, I, J, X)))) : iq_Gg 3 116 (24, [some (.ref 72), some (.ref 16), some (.int x2), some (.int x3), some (.int x4)], [], (iq_sh l, I, J, X)) r := by
  unfold zW_firstFly_l24_b at h
  refine iq_G_go (k := 2) (σ' := (27, [some (.ref 72), some (.ref 16), some (.int x2), some (.int x3), some (.int x4)], [.int x3, .int x4], (iq_sh l, I, J, X))) (fun _ => rfl) ?_
  rcases iq_ite h with ⟨hc_, h⟩ | ⟨hc_, h⟩
  · refine iq_G_pos (c := x3 ≤ x4) (σ1 := (50, [some (.ref 72), some (.ref 16), some (.int x2), some (.int x3), some (.int x4)], [], (iq_sh l, I, J, X))) (fun _ => rfl) hc_ ?_
    cases h
    exact iq_G_fg (L := [none, none, none, none, none]) trivial ((hx (.inl ()) rfl).1 () rfl)
  · refine iq_G_neg (c := x3 ≤ x4) (σ1 := (30, [some (.ref 72), some (.ref 16), some (.int x2), some (.int x3), some (.int x4)], [], (iq_sh l, I, J, X))) (fun _ => rfl) hc_ ?_
    refine iq_G_go (k := 4) (σ' := (35, [some (.ref 72), some (.ref 16), some (.int x2), some (.int x3), some (.int x4)], [.int x4, .int x2, .ref 16, .ref 72], (iq_sh l, I, J, X))) (fun _ => rfl) ?_
    obtain ⟨q3, hq3, h⟩ := iq_bnd h
    refine iq_G_call (σ' := (38, [some (.ref 72), some (.ref 16), some (.int x2), some (.int x3), some (.int x4)], [.int q3], (iq_sh l, I, J, X))) (fun _ => rfl) (zW_wouldHeal_ok l x2 x4 I J X hq3) rfl rfl ?_
    rcases iq_ite h with ⟨hc_, h⟩ | ⟨hc_, h⟩
    · refine iq_G_pos (c := q3 = 0) (σ1 := (44, [some (.ref 72), some (.ref 16), some (.int x2), some (.int x3), some (.int x4)], [], (iq_sh l, I, J, X))) (fun _ => rfl) hc_ ?_
      refine iq_G_go (k := 2) (σ' := (24, [some (.ref 72), some (.ref 16), some (.int x2), some (.int x3), some (.int (x4 + (1 : Int32)))], [], (iq_sh l, I, J, X))) (fun _ => rfl) ?_
      cases h
      exact iq_G_fg (L := [some (.ref 72), some (.ref 16), some (.int x2), some (.int x3), some (.int (x4 + (1 : Int32)))]) (And.intro rfl (And.intro rfl (And.intro rfl (And.intro rfl (And.intro rfl trivial))))) (hc (x4 + (1 : Int32)) rfl)
    · refine iq_G_neg (c := q3 = 0) (σ1 := (41, [some (.ref 72), some (.ref 16), some (.int x2), some (.int x3), some (.int x4)], [], (iq_sh l, I, J, X))) (fun _ => rfl) hc_ ?_
      refine iq_G_go (k := 1) (σ' := (43, [some (.ref 72), some (.ref 16), some (.int x2), some (.int x3), some (.int x4)], [.int x4], (iq_sh l, I, J, X))) (fun _ => rfl) ?_
      cases h
      obtain rfl := (hx _ rfl).2 _ rfl
      exact iq_G_ret (fun _ => rfl)
set_option maxRecDepth 100000 in
theorem zW_firstFly_l24_ok (l : Nat)  (x2 : Int32) (x3 : Int32) (I : iq_I) (J : iq_J) (X : iq_X) {n : Nat} {v : Int32} {w : (Unit) ⊕ (Int32)} (h : zW_firstFly_l24 x2 x3 I n v = some w) (r : iq_R × iq_M) (hq : (∀ a, w = .inl a → iq_Gg 3 116 (50, [none, none, none, none, none], [], (iq_sh l, I, J, X)) r) ∧ (∀ b, w = .inr b → r = (.inl (some (.int b)), (iq_sh l, I, J, X)))) : iq_Gg 3 116 (24, [some (.ref 72), some (.ref 16), some (.int x2), some (.int x3), some (.int v)], [], (iq_sh l, I, J, X)) r :=
  iq_lp_ok (σ := fun v => (24, [some (.ref 72), some (.ref 16), some (.int x2), some (.int x3), some (.int v)], [], (iq_sh l, I, J, X))) (Q := fun w r => (∀ a, w = .inl a → iq_Gg 3 116 (50, [none, none, none, none, none], [], (iq_sh l, I, J, X)) r) ∧ (∀ b, w = .inr b → r = (.inl (some (.int b)), (iq_sh l, I, J, X)))) (fun v q hv r h1 h2 => zW_firstFly_l24_bok l x2 x3 I J X v hv r h1 h2) h r hq
set_option maxRecDepth 100000 in
theorem zW_firstFly_ok (l : Nat)  (x2 : Int32) (I : iq_I) (J : iq_J) (X : iq_X) {q : Int32} (h : zW_firstFly x2 I = some q) : iq_Cc 4 116 [.ref 72, .ref 16, .int x2] (iq_sh l, I, J, X) (.inl (some (.int q)), (iq_sh l, I, J, X)) := by
  refine iq_Cc_of (L := [some (.ref 72), some (.ref 16), some (.int x2), none, none]) rfl rfl ?_
  unfold zW_firstFly at h
  refine iq_G_go (k := 4) (σ' := (6, [some (.ref 72), some (.ref 16), some (.int x2), none, none], [.int x2, .ref 16, .ref 4], (iq_sh l, I, J, X))) (fun _ => rfl) ?_
  obtain ⟨q1, hq1, h⟩ := iq_bnd h
  refine iq_G_call (σ' := (9, [some (.ref 72), some (.ref 16), some (.int x2), none, none], [.int q1], (iq_sh l, I, J, X))) (fun _ => rfl) (zU_stateOf_4_16_ok l x2 I J X hq1) rfl rfl ?_
  refine iq_G_go (k := 1) (σ' := (10, [some (.ref 72), some (.ref 16), some (.int x2), none, none], [.int (-1 : Int32), .int q1], (iq_sh l, I, J, X))) (fun _ => rfl) ?_
  rcases iq_ite h with ⟨hc_, h⟩ | ⟨hc_, h⟩
  · refine iq_G_pos (c := q1 = (-1 : Int32)) (σ1 := (15, [some (.ref 72), some (.ref 16), some (.int x2), none, none], [], (iq_sh l, I, J, X))) (fun _ => rfl) hc_ ?_
    refine iq_G_go (k := 2) (σ' := (17, [some (.ref 72), some (.ref 16), some (.int x2), none, none], [.int x2, .ref 16], (iq_sh l, I, J, X))) (fun _ => rfl) ?_
    obtain ⟨q2, hq2, h⟩ := iq_bnd h
    refine iq_G_call (σ' := (20, [some (.ref 72), some (.ref 16), some (.int x2), none, none], [.int q2], (iq_sh l, I, J, X))) (fun _ => rfl) (zG_lengthOf_16_ok l x2 I J X hq2) rfl rfl ?_
    refine iq_G_go (k := 3) (σ' := (24, [some (.ref 72), some (.ref 16), some (.int x2), some (.int q2), some (.int (0 : Int32))], [], (iq_sh l, I, J, X))) (fun _ => rfl) ?_
    obtain ⟨w4, hw4, h⟩ := iq_bnd h
    refine iq_G_fg (L := [some (.ref 72), some (.ref 16), some (.int x2), some (.int q2), some (.int (0 : Int32))]) (And.intro rfl (And.intro rfl (And.intro rfl (And.intro rfl (And.intro rfl trivial))))) ?_
    refine zW_firstFly_l24_ok l x2 q2 I J X hw4 _ ⟨fun a5 ha => ?_, fun b6 hb => ?_⟩
    · subst ha
      replace h := ir_smL h
      show iq_Gg 3 116 (50, [none, none, none, none, none], [], (iq_sh l, I, J, X)) _
      refine iq_G_go (k := 1) (σ' := (51, [none, none, none, none, none], [.int (-1 : Int32)], (iq_sh l, I, J, X))) (fun _ => rfl) ?_
      cases h
      exact iq_G_ret (fun _ => rfl)
    · subst hb
      replace h := ir_smR h
      cases h
      rfl
  · refine iq_G_neg (c := q1 = (-1 : Int32)) (σ1 := (13, [some (.ref 72), some (.ref 16), some (.int x2), none, none], [], (iq_sh l, I, J, X))) (fun _ => rfl) hc_ ?_
    refine iq_G_go (k := 1) (σ' := (14, [some (.ref 72), some (.ref 16), some (.int x2), none, none], [.int (-1 : Int32)], (iq_sh l, I, J, X))) (fun _ => rfl) ?_
    cases h
    exact iq_G_ret (fun _ => rfl)
set_option maxRecDepth 100000 in
theorem zO_culprit_ok (l : Nat)  (x1 : Int32) (x2 : Int32) (I : iq_I) (J : iq_J) (X : iq_X) {q : (Int32 ⊕ Nat) × iq_X} (h : zO_culprit x1 x2 I X = some q) : iq_Cc 5 177 [.ref 1, .int x1, .int x2] (iq_sh l, I, J, X) ((ir_Ri q.1), (iq_sh l, I, J, q.2)) := by
  refine iq_Cc_of (L := [some (.ref 1), some (.int x1), some (.int x2)]) rfl rfl ?_
  unfold zO_culprit at h
  refine iq_G_go (k := 2) (σ' := (2, [some (.ref 1), some (.int x1), some (.int x2)], [.int x1, .ref 1], (iq_sh l, I, J, X))) (fun _ => rfl) ?_
  obtain ⟨q1, hq1, h⟩ := iq_bnd h
  have hC := (zO_needSaying_ok l x1 I J X hq1)
  rcases iq_smc h with ⟨a2, ha, h⟩ | ⟨k3, ha, h⟩
  · rw [ha] at hC
    refine iq_G_call (σ' := (5, [some (.ref 1), some (.int x1), some (.int x2)], [], (iq_sh l, I, J, q1.2))) (fun _ => rfl) hC rfl rfl ?_
    refine iq_G_go (k := 2) (σ' := (7, [some (.ref 1), some (.int x1), some (.int x2)], [.int x2, .ref 1], (iq_sh l, I, J, q1.2))) (fun _ => rfl) ?_
    obtain ⟨q4, hq4, h⟩ := iq_bnd h
    have hC := (zO_needOneOfTwo_ok l x2 I J q1.2 hq4)
    rcases iq_smc h with ⟨a5, ha, h⟩ | ⟨k6, ha, h⟩
    · rw [ha] at hC
      refine iq_G_call (σ' := (10, [some (.ref 1), some (.int x1), some (.int x2)], [], (iq_sh l, I, J, q4.2))) (fun _ => rfl) hC rfl rfl ?_
      refine iq_G_go (k := 1) (σ' := (11, [some (.ref 1), some (.int x1), some (.int x2)], [.int x2], (iq_sh l, I, J, q4.2))) (fun _ => rfl) ?_
      rcases iq_ite h with ⟨hc_, h⟩ | ⟨hc_, h⟩
      · refine iq_G_pos (c := ¬ x2 = 0) (σ1 := (29, [some (.ref 1), some (.int x1), some (.int x2)], [], (iq_sh l, I, J, q4.2))) (fun _ => rfl) hc_ ?_
        refine iq_G_go (k := 5) (σ' := (38, [some (.ref 1), some (.int x1), some (.int x2)], [.int x1, .ref 16, .ref 72], (iq_sh l, I, J, q4.2))) (fun _ => rfl) ?_
        obtain ⟨q7, hq7, h⟩ := iq_bnd h
        refine iq_G_call (σ' := (41, [some (.ref 1), some (.int x1), some (.int x2)], [.int q7], (iq_sh l, I, J, q4.2))) (fun _ => rfl) (zW_firstFly_ok l x1 I J q4.2 hq7) rfl rfl ?_
        cases h
        exact iq_G_ret (fun _ => rfl)
      · refine iq_G_neg (c := ¬ x2 = 0) (σ1 := (14, [some (.ref 1), some (.int x1), some (.int x2)], [], (iq_sh l, I, J, q4.2))) (fun _ => rfl) hc_ ?_
        refine iq_G_go (k := 5) (σ' := (23, [some (.ref 1), some (.int x1), some (.int x2)], [.int x1, .ref 16, .ref 72], (iq_sh l, I, J, q4.2))) (fun _ => rfl) ?_
        obtain ⟨q8, hq8, h⟩ := iq_bnd h
        refine iq_G_call (σ' := (26, [some (.ref 1), some (.int x1), some (.int x2)], [.int q8], (iq_sh l, I, J, q4.2))) (fun _ => rfl) (zW_countFlies_ok l x1 I J q4.2 hq8) rfl rfl ?_
        refine iq_G_go (k := 1) (σ' := (41, [some (.ref 1), some (.int x1), some (.int x2)], [.int q8], (iq_sh l, I, J, q4.2))) (fun _ => rfl) ?_
        cases h
        exact iq_G_ret (fun _ => rfl)
    · rw [ha] at hC
      cases h
      exact iq_G_callx (fun _ => rfl) hC rfl rfl
  · rw [ha] at hC
    cases h
    exact iq_G_callx (fun _ => rfl) hC rfl rfl
set_option maxRecDepth 100000 in
theorem zL_culprit_ok (l : Nat)  (x1 : Int32) (x2 : Int32) (I : iq_I) (J : iq_J) (X : iq_X) {q : Int32 × iq_J × iq_X} (h : zL_culprit x1 x2 I J X = some q) : iq_Cc 6 346 [.ref 1, .int x1, .int x2, .ref 114] (iq_sh l, I, J, X) (.inl (some (.int q.1)), (iq_sh l, I, q.2.1, q.2.2)) := by
  refine iq_Cc_of (L := [some (.ref 1), some (.int x1), some (.int x2), some (.ref 114), none]) rfl rfl ?_
  unfold zL_culprit at h
  refine iq_G_go (k := 5) (σ' := (5, [some (.ref 1), some (.int x1), some (.int x2), some (.ref 114), none], [.int x2, .int x1, .ref 1, .int (0 : Int32), .ref 114], (iq_sh l, I, J, X))) (fun _ => rfl) ?_
  obtain ⟨q1, hq1, h⟩ := iq_bnd h
  have hC := (zO_culprit_ok l x1 x2 I J X hq1)
  rcases iq_smc h with ⟨a2, ha, h⟩ | ⟨k3, ha, h⟩
  · rw [ha] at hC
    refine iq_G_call (σ' := (8, [some (.ref 1), some (.int x1), some (.int x2), some (.ref 114), none], [.int a2, .int (0 : Int32), .ref 114], (iq_sh l, I, J, q1.2))) (fun _ => rfl) hC rfl rfl ?_
    refine iq_G_go (k := 1) (σ' := (9, [some (.ref 1), some (.int x1), some (.int x2), some (.ref 114), none], [.long (Int32.toInt64 a2), .int (0 : Int32), .ref 114], (iq_sh l, I, J, q1.2))) (fun _ => rfl) ?_
    refine iq_G_go (k := 1) (σ' := (10, [some (.ref 1), some (.int x1), some (.int x2), some (.ref 114), none], [], (iq_sh l, I, (iq_upJ J 114 0 (Int32.toInt64 a2)), q1.2))) (fun _ => rfl) ?_
    obtain ⟨J4, eJ4, h⟩ := ir_letG h
    rw [← eJ4]
    clear eJ4
    refine iq_G_go (k := 2) (σ' := (18, [some (.ref 1), some (.int x1), some (.int x2), some (.ref 114), none], [.int (0 : Int32)], (iq_sh l, I, J4, q1.2))) (fun _ => rfl) ?_
    cases h
    exact iq_G_ret (fun _ => rfl)
  · rw [ha] at hC
    rcases iq_ite h with ⟨e, h⟩ | ⟨_, h⟩
    · subst e
      refine iq_G_call (σ' := (15, [some (.ref 1), some (.int x1), some (.int x2), some (.ref 114), none], [], (iq_sh l, I, J, q1.2))) (fun _ => rfl) hC rfl rfl ?_
      refine iq_G_go (k := 1) (σ' := (16, [some (.ref 1), some (.int x1), some (.int x2), some (.ref 114), none], [.int (1 : Int32)], (iq_sh l, I, J, q1.2))) (fun _ => rfl) ?_
      cases h
      exact iq_G_ret (fun _ => rfl)
    · obtain ⟨e, h⟩ := iq_itn h
      cases h
set_option maxRecDepth 100000 in
theorem zM_culprit_l32_bok (l : Nat)  (x1 : Int32) (x2 : Int32) (I : iq_I) (J : iq_J) (X : iq_X) (x3 : Int32) (x4 : Int32) (x5 : Int32)  {q : (Int32 × Int32 × Int32) ⊕ (Int32 × Int32)} (h : zM_culprit_l32_b x1 x2 I x3 x4 x5 = some q) (r : iq_R × iq_M) (hc : ∀ v, q = .inl v → iq_Gg 3 295 (32, [some (.ref 76), some (.int x1), some (.int x2), some (.int v.1), some (.int v.2.1), some (.int v.2.2)], [], (iq_sh l, I, J, X)) r) (hx : ∀ w, q = .inr w → iq_Gg 3 295 (99, [none, none, some (.int x2), some (.int w.1), some (.int w.2), none], [], (iq_sh l, I, J, X)) r) : iq_Gg 3 295 (32, [some (.ref 76), some (.int x1), some (.int x2), some (.int x3), some (.int x4), some (.int x5)], [], (iq_sh l, I, J, X)) r := by
  unfold zM_culprit_l32_b at h
  refine iq_G_go (k := 4) (σ' := (39, [some (.ref 76), some (.int x1), some (.int x2), some (.int x3), some (.int x4), some (.int x5)], [.int x1, .ref 98, .int x5], (iq_sh l, I, J, X))) (fun _ => rfl) ?_
  obtain ⟨hc_, h⟩ := iq_itn h
  refine iq_G_pos (c := iq_in x1 206) (σ1 := (40, [some (.ref 76), some (.int x1), some (.int x2), some (.int x3), some (.int x4), some (.int x5)], [.int (I 98 (Int32.toNatClampNeg x1)), .int x5], (iq_sh l, I, J, X))) (fun _ => rfl) hc_ ?_
  rcases iq_ite h with ⟨hc_, h⟩ | ⟨hc_, h⟩
  · refine iq_G_pos (c := (I 98 (Int32.toNatClampNeg x1)) ≤ x5) (σ1 := (99, [some (.ref 76), some (.int x1), some (.int x2), some (.int x3), some (.int x4), some (.int x5)], [], (iq_sh l, I, J, X))) (fun _ => rfl) hc_ ?_
    cases h
    exact iq_G_fg (L := [none, none, some (.int x2), some (.int x3), some (.int x4), none]) (And.intro rfl (And.intro rfl (And.intro rfl trivial))) (hx (x3, x4) rfl)
  · refine iq_G_neg (c := (I 98 (Int32.toNatClampNeg x1)) ≤ x5) (σ1 := (43, [some (.ref 76), some (.int x1), some (.int x2), some (.int x3), some (.int x4), some (.int x5)], [], (iq_sh l, I, J, X))) (fun _ => rfl) hc_ ?_
    refine iq_G_go (k := 4) (σ' := (49, [some (.ref 76), some (.int x1), some (.int x2), some (.int x3), some (.int x4), some (.int x5)], [.int x1, .ref 98, .ref 76], (iq_sh l, I, J, X))) (fun _ => rfl) ?_
    obtain ⟨q4, hq4, h⟩ := iq_bnd h
    refine iq_G_call (σ' := (52, [some (.ref 76), some (.int x1), some (.int x2), some (.int x3), some (.int x4), some (.int x5)], [.int q4], (iq_sh l, I, J, X))) (fun _ => rfl) (zM_stateNow_76_98_ok l x1 I J X hq4) rfl rfl ?_
    refine iq_G_go (k := 1) (σ' := (53, [some (.ref 76), some (.int x1), some (.int x2), some (.int x3), some (.int x4), some (.int x5)], [.int (-1 : Int32), .int q4], (iq_sh l, I, J, X))) (fun _ => rfl) ?_
    rcases iq_ite h with ⟨hc_, h⟩ | ⟨hc_, h⟩
    · refine iq_G_pos (c := ¬ q4 = (-1 : Int32)) (σ1 := (99, [some (.ref 76), some (.int x1), some (.int x2), some (.int x3), some (.int x4), some (.int x5)], [], (iq_sh l, I, J, X))) (fun _ => rfl) hc_ ?_
      cases h
      exact iq_G_fg (L := [none, none, some (.int x2), some (.int x3), some (.int x4), none]) (And.intro rfl (And.intro rfl (And.intro rfl trivial))) (hx (x3, x4) rfl)
    · refine iq_G_neg (c := ¬ q4 = (-1 : Int32)) (σ1 := (56, [some (.ref 76), some (.int x1), some (.int x2), some (.int x3), some (.int x4), some (.int x5)], [], (iq_sh l, I, J, X))) (fun _ => rfl) hc_ ?_
      refine iq_G_go (k := 7) (σ' := (67, [some (.ref 76), some (.int x1), some (.int x2), some (.int x3), some (.int x4), some (.int x5)], [.int x1, .ref 83, .int x1, .ref 98, .ref 76], (iq_sh l, I, J, X))) (fun _ => rfl) ?_
      obtain ⟨hc_, h⟩ := iq_itn h
      refine iq_G_pos (c := iq_in x1 5) (σ1 := (68, [some (.ref 76), some (.int x1), some (.int x2), some (.int x3), some (.int x4), some (.int x5)], [.int (I 83 (Int32.toNatClampNeg x1)), .int x1, .ref 98, .ref 76], (iq_sh l, I, J, X))) (fun _ => rfl) hc_ ?_
      refine iq_G_go (k := 1) (σ' := (70, [some (.ref 76), some (.int x1), some (.int x2), some (.int x3), some (.int x4), some (.int x5)], [.int x5, .int (I 83 (Int32.toNatClampNeg x1)), .int x1, .ref 98, .ref 76], (iq_sh l, I, J, X))) (fun _ => rfl) ?_
      obtain ⟨q5, hq5, h⟩ := iq_bnd h
      refine iq_G_call (σ' := (73, [some (.ref 76), some (.int x1), some (.int x2), some (.int x3), some (.int x4), some (.int x5)], [.int q5], (iq_sh l, I, J, X))) (fun _ => rfl) (zM_stateOf_76_98_ok l x1 (I 83 (Int32.toNatClampNeg x1)) x5 I J X hq5) rfl rfl ?_
      refine iq_G_go (k := 1) (σ' := (74, [some (.ref 76), some (.int x1), some (.int x2), some (.int x3), some (.int x4), some (.int x5)], [.int (-1 : Int32), .int q5], (iq_sh l, I, J, X))) (fun _ => rfl) ?_
      rcases iq_ite h with ⟨hc_, h⟩ | ⟨hc_, h⟩
      · refine iq_G_pos (c := ¬ q5 = (-1 : Int32)) (σ1 := (80, [some (.ref 76), some (.int x1), some (.int x2), some (.int x3), some (.int x4), some (.int x5)], [], (iq_sh l, I, J, X))) (fun _ => rfl) hc_ ?_
        refine iq_G_go (k := 3) (σ' := (86, [some (.ref 76), some (.int x1), some (.int x2), some (.int (x3 + (1 : Int32))), some (.int x4), some (.int x5)], [.int (-1 : Int32), .int x4], (iq_sh l, I, J, X))) (fun _ => rfl) ?_
        rcases iq_ite h with ⟨hc_, h⟩ | ⟨hc_, h⟩
        · refine iq_G_pos (c := ¬ x4 = (-1 : Int32)) (σ1 := (93, [some (.ref 76), some (.int x1), some (.int x2), some (.int (x3 + (1 : Int32))), some (.int x4), some (.int x5)], [], (iq_sh l, I, J, X))) (fun _ => rfl) hc_ ?_
          refine iq_G_go (k := 2) (σ' := (32, [some (.ref 76), some (.int x1), some (.int x2), some (.int (x3 + (1 : Int32))), some (.int x4), some (.int (x5 + (1 : Int32)))], [], (iq_sh l, I, J, X))) (fun _ => rfl) ?_
          cases h
          exact iq_G_fg (L := [some (.ref 76), some (.int x1), some (.int x2), some (.int (x3 + (1 : Int32))), some (.int x4), some (.int (x5 + (1 : Int32)))]) (And.intro rfl (And.intro rfl (And.intro rfl (And.intro rfl (And.intro rfl (And.intro rfl trivial)))))) (hc ((x3 + (1 : Int32)), x4, (x5 + (1 : Int32))) rfl)
        · refine iq_G_neg (c := ¬ x4 = (-1 : Int32)) (σ1 := (89, [some (.ref 76), some (.int x1), some (.int x2), some (.int (x3 + (1 : Int32))), some (.int x4), some (.int x5)], [], (iq_sh l, I, J, X))) (fun _ => rfl) hc_ ?_
          refine iq_G_go (k := 4) (σ' := (32, [some (.ref 76), some (.int x1), some (.int x2), some (.int (x3 + (1 : Int32))), some (.int x5), some (.int (x5 + (1 : Int32)))], [], (iq_sh l, I, J, X))) (fun _ => rfl) ?_
          cases h
          exact iq_G_fg (L := [some (.ref 76), some (.int x1), some (.int x2), some (.int (x3 + (1 : Int32))), some (.int x5), some (.int (x5 + (1 : Int32)))]) (And.intro rfl (And.intro rfl (And.intro rfl (And.intro rfl (And.intro rfl (And.intro rfl trivial)))))) (hc ((x3 + (1 : Int32)), x5, (x5 + (1 : Int32))) rfl)
      · refine iq_G_neg (c := ¬ q5 = (-1 : Int32)) (σ1 := (77, [some (.ref 76), some (.int x1), some (.int x2), some (.int x3), some (.int x4), some (.int x5)], [], (iq_sh l, I, J, X))) (fun _ => rfl) hc_ ?_
        refine iq_G_go (k := 3) (σ' := (32, [some (.ref 76), some (.int x1), some (.int x2), some (.int x3), some (.int x4), some (.int (x5 + (1 : Int32)))], [], (iq_sh l, I, J, X))) (fun _ => rfl) ?_
        cases h
        exact iq_G_fg (L := [some (.ref 76), some (.int x1), some (.int x2), some (.int x3), some (.int x4), some (.int (x5 + (1 : Int32)))]) (And.intro rfl (And.intro rfl (And.intro rfl (And.intro rfl (And.intro rfl (And.intro rfl trivial)))))) (hc (x3, x4, (x5 + (1 : Int32))) rfl)
set_option maxRecDepth 100000 in
theorem zM_culprit_l32_ok (l : Nat)  (x1 : Int32) (x2 : Int32) (I : iq_I) (J : iq_J) (X : iq_X) {n : Nat} {v : Int32 × Int32 × Int32} {w : Int32 × Int32} (h : zM_culprit_l32 x1 x2 I n v = some w) (r : iq_R × iq_M) (hq : iq_Gg 3 295 (99, [none, none, some (.int x2), some (.int w.1), some (.int w.2), none], [], (iq_sh l, I, J, X)) r) : iq_Gg 3 295 (32, [some (.ref 76), some (.int x1), some (.int x2), some (.int v.1), some (.int v.2.1), some (.int v.2.2)], [], (iq_sh l, I, J, X)) r :=
  iq_lp_ok (σ := fun v => (32, [some (.ref 76), some (.int x1), some (.int x2), some (.int v.1), some (.int v.2.1), some (.int v.2.2)], [], (iq_sh l, I, J, X))) (Q := fun w r => iq_Gg 3 295 (99, [none, none, some (.int x2), some (.int w.1), some (.int w.2), none], [], (iq_sh l, I, J, X)) r) (fun v q hv r h1 h2 => zM_culprit_l32_bok l x1 x2 I J X v.1 v.2.1 v.2.2 hv r h1 h2) h r hq
set_option maxRecDepth 100000 in
theorem zM_culprit_99_ok (l : Nat)  (x2 : Int32) (x3 : Int32) (x4 : Int32) (I : iq_I) (J : iq_J) (X : iq_X)  {q : Int32 × iq_I} (h : zM_culprit_99 x2 x3 x4 I = some q)  : iq_Gg 3 295 (99, [none, none, some (.int x2), some (.int x3), some (.int x4), none], [], (iq_sh l, I, J, X)) (.inl (some (.int q.1)), (iq_sh l, q.2, J, X)) := by
  unfold zM_culprit_99 at h
  refine iq_G_go (k := 1) (σ' := (100, [none, none, some (.int x2), some (.int x3), some (.int x4), none], [.int x2], (iq_sh l, I, J, X))) (fun _ => rfl) ?_
  rcases iq_ite h with ⟨hc_, h⟩ | ⟨hc_, h⟩
  · refine iq_G_pos (c := ¬ x2 = 0) (σ1 := (107, [none, none, some (.int x2), some (.int x3), some (.int x4), none], [], (iq_sh l, I, J, X))) (fun _ => rfl) hc_ ?_
    refine iq_G_go (k := 1) (σ' := (109, [none, none, some (.int x2), some (.int x3), some (.int x4), none], [.int x4], (iq_sh l, I, J, X))) (fun _ => rfl) ?_
    cases h
    exact iq_G_ret (fun _ => rfl)
  · refine iq_G_neg (c := ¬ x2 = 0) (σ1 := (103, [none, none, some (.int x2), some (.int x3), some (.int x4), none], [], (iq_sh l, I, J, X))) (fun _ => rfl) hc_ ?_
    refine iq_G_go (k := 2) (σ' := (109, [none, none, some (.int x2), some (.int x3), some (.int x4), none], [.int x3], (iq_sh l, I, J, X))) (fun _ => rfl) ?_
    cases h
    exact iq_G_ret (fun _ => rfl)
set_option maxRecDepth 100000 in
theorem zM_culprit_ok (l : Nat)  (x1 : Int32) (x2 : Int32) (I : iq_I) (J : iq_J) (X : iq_X) {q : Int32 × iq_I} (h : zM_culprit x1 x2 I = some q) : iq_Cc 4 295 [.ref 76, .int x1, .int x2] (iq_sh l, I, J, X) (.inl (some (.int q.1)), (iq_sh l, q.2, J, X)) := by
  refine iq_Cc_of (L := [some (.ref 76), some (.int x1), some (.int x2), none, none, none]) rfl rfl ?_
  unfold zM_culprit at h
  refine iq_G_go (k := 2) (σ' := (2, [some (.ref 76), some (.int x1), some (.int x2), none, none, none], [.int (0 : Int32), .ref 76], (iq_sh l, I, J, X))) (fun _ => rfl) ?_
  refine iq_G_go (k := 1) (σ' := (5, [some (.ref 76), some (.int x1), some (.int x2), none, none, none], [], (iq_sh l, (iq_upI I 76 0 (0 : Int32)), J, X))) (fun _ => rfl) ?_
  obtain ⟨I1, eI1, h⟩ := ir_letG h
  rw [← eI1]
  clear eI1
  refine iq_G_go (k := 2) (σ' := (7, [some (.ref 76), some (.int x1), some (.int x2), none, none, none], [.int x1, .ref 76], (iq_sh l, I1, J, X))) (fun _ => rfl) ?_
  obtain ⟨q2, hq2, h⟩ := iq_bnd h
  refine iq_G_call (σ' := (10, [some (.ref 76), some (.int x1), some (.int x2), none, none, none], [.int q2.1], (iq_sh l, q2.2, J, X))) (fun _ => rfl) (zM_isSaying_ok l x1 I1 J X hq2) rfl rfl ?_
  rcases iq_ite h with ⟨hc_, h⟩ | ⟨hc_, h⟩
  · refine iq_G_pos (c := q2.1 = 0) (σ1 := (22, [some (.ref 76), some (.int x1), some (.int x2), none, none, none], [], (iq_sh l, q2.2, J, X))) (fun _ => rfl) hc_ ?_
    refine iq_G_go (k := 1) (σ' := (23, [some (.ref 76), some (.int x1), some (.int x2), none, none, none], [.int (0 : Int32)], (iq_sh l, q2.2, J, X))) (fun _ => rfl) ?_
    cases h
    exact iq_G_ret (fun _ => rfl)
  · refine iq_G_neg (c := q2.1 = 0) (σ1 := (13, [some (.ref 76), some (.int x1), some (.int x2), none, none, none], [], (iq_sh l, q2.2, J, X))) (fun _ => rfl) hc_ ?_
    refine iq_G_go (k := 3) (σ' := (16, [some (.ref 76), some (.int x1), some (.int x2), none, none, none], [.int (1 : Int32), .int x2, .ref 76], (iq_sh l, q2.2, J, X))) (fun _ => rfl) ?_
    obtain ⟨q3, hq3, h⟩ := iq_bnd h
    refine iq_G_call (σ' := (19, [some (.ref 76), some (.int x1), some (.int x2), none, none, none], [.int q3.1], (iq_sh l, q3.2, J, X))) (fun _ => rfl) (zM_isWhat_ok l x2 (1 : Int32) q2.2 J X hq3) rfl rfl ?_
    rcases iq_ite h with ⟨hc_, h⟩ | ⟨hc_, h⟩
    · refine iq_G_pos (c := ¬ q3.1 = 0) (σ1 := (24, [some (.ref 76), some (.int x1), some (.int x2), none, none, none], [], (iq_sh l, q3.2, J, X))) (fun _ => rfl) hc_ ?_
      refine iq_G_go (k := 6) (σ' := (32, [some (.ref 76), some (.int x1), some (.int x2), some (.int (0 : Int32)), some (.int (-1 : Int32)), some (.int (0 : Int32))], [], (iq_sh l, q3.2, J, X))) (fun _ => rfl) ?_
      obtain ⟨w6, hw6, h⟩ := iq_bnd h
      refine iq_G_fg (L := [some (.ref 76), some (.int x1), some (.int x2), some (.int (0 : Int32)), some (.int (-1 : Int32)), some (.int (0 : Int32))]) (And.intro rfl (And.intro rfl (And.intro rfl (And.intro rfl (And.intro rfl (And.intro rfl trivial)))))) ?_
      refine zM_culprit_l32_ok l x1 x2 q3.2 J X hw6 _ ?_
      show iq_Gg 3 295 (99, [none, none, some (.int x2), some (.int w6.1), some (.int w6.2), none], [], (iq_sh l, q3.2, J, X)) _
      exact iq_G_fg (L := [none, none, some (.int x2), some (.int w6.1), some (.int w6.2), none]) (And.intro rfl (And.intro rfl (And.intro rfl trivial))) (zM_culprit_99_ok l x2 w6.1 w6.2 q3.2 J X  h )
    · refine iq_G_neg (c := ¬ q3.1 = 0) (σ1 := (22, [some (.ref 76), some (.int x1), some (.int x2), none, none, none], [], (iq_sh l, q3.2, J, X))) (fun _ => rfl) hc_ ?_
      refine iq_G_go (k := 1) (σ' := (23, [some (.ref 76), some (.int x1), some (.int x2), none, none, none], [.int (0 : Int32)], (iq_sh l, q3.2, J, X))) (fun _ => rfl) ?_
      cases h
      exact iq_G_ret (fun _ => rfl)
set_option maxRecDepth 100000 in
theorem zW_fewestChanges_l17_bok (l : Nat)  (x2 : Int32) (x3 : Int32) (x4 : Int32) (x5 : Int32) (J : iq_J) (X : iq_X) (x6 : Int32) (I : iq_I) {q : (Int32 × iq_I) ⊕ (iq_I)} (h : zW_fewestChanges_l17_b x2 x3 x4 x5 x6 I = some q) (r : iq_R × iq_M) (hc : ∀ v, q = .inl v → iq_Gg 1 113 (17, [some (.ref 72), some (.ref 16), some (.int x2), some (.int x3), some (.int x4), some (.int x5), some (.int v.1), none, none, none], [], (iq_sh l, v.2, J, X)) r) (hx : ∀ w, q = .inr w → iq_Gg 1 113 (46, [some (.ref 72), some (.ref 16), some (.int x2), some (.int x3), some (.int x4), some (.int x5), none, none, none, none], [], (iq_sh l, w, J, X)) r) : iq_Gg 1 113 (17, [some (.ref 72), some (.ref 16), some (.int x2), some (.int x3), some (.int x4), some (.int x5), some (.int x6), none, none, none], [], (iq_sh l, I, J, X)) r := by
  unfold zW_fewestChanges_l17_b at h
  refine iq_G_go (k := 2) (σ' := (21, [some (.ref 72), some (.ref 16), some (.int x2), some (.int x3), some (.int x4), some (.int x5), some (.int x6), none, none, none], [.int x5, .int x6], (iq_sh l, I, J, X))) (fun _ => rfl) ?_
  rcases iq_ite h with ⟨hc_, h⟩ | ⟨hc_, h⟩
  · refine iq_G_pos (c := x5 < x6) (σ1 := (46, [some (.ref 72), some (.ref 16), some (.int x2), some (.int x3), some (.int x4), some (.int x5), some (.int x6), none, none, none], [], (iq_sh l, I, J, X))) (fun _ => rfl) hc_ ?_
    cases h
    exact iq_G_fg (L := [some (.ref 72), some (.ref 16), some (.int x2), some (.int x3), some (.int x4), some (.int x5), none, none, none, none]) (And.intro rfl (And.intro rfl (And.intro rfl (And.intro rfl (And.intro rfl (And.intro rfl trivial)))))) (hx I rfl)
  · refine iq_G_neg (c := x5 < x6) (σ1 := (24, [some (.ref 72), some (.ref 16), some (.int x2), some (.int x3), some (.int x4), some (.int x5), some (.int x6), none, none, none], [], (iq_sh l, I, J, X))) (fun _ => rfl) hc_ ?_
    refine iq_G_go (k := 2) (σ' := (28, [some (.ref 72), some (.ref 16), some (.int x2), some (.int x3), some (.int x4), some (.int x5), some (.int x6), none, none, none], [.int (40 : Int32), .int x6], (iq_sh l, I, J, X))) (fun _ => rfl) ?_
    rcases iq_ite h with ⟨hc_, h⟩ | ⟨hc_, h⟩
    · refine iq_G_pos (c := (40 : Int32) < x6) (σ1 := (46, [some (.ref 72), some (.ref 16), some (.int x2), some (.int x3), some (.int x4), some (.int x5), some (.int x6), none, none, none], [], (iq_sh l, I, J, X))) (fun _ => rfl) hc_ ?_
      cases h
      exact iq_G_fg (L := [some (.ref 72), some (.ref 16), some (.int x2), some (.int x3), some (.int x4), some (.int x5), none, none, none, none]) (And.intro rfl (And.intro rfl (And.intro rfl (And.intro rfl (And.intro rfl (And.intro rfl trivial)))))) (hx I rfl)
    · refine iq_G_neg (c := (40 : Int32) < x6) (σ1 := (31, [some (.ref 72), some (.ref 16), some (.int x2), some (.int x3), some (.int x4), some (.int x5), some (.int x6), none, none, none], [], (iq_sh l, I, J, X))) (fun _ => rfl) hc_ ?_
      refine iq_G_go (k := 4) (σ' := (39, [some (.ref 72), some (.ref 16), some (.int x2), some (.int x3), some (.int x4), some (.int x5), some (.int x6), none, none, none], [.int x6, .int x6, .ref 73], (iq_sh l, I, J, X))) (fun _ => rfl) ?_
      obtain ⟨hc_, h⟩ := iq_itn h
      refine iq_G_pos (c := iq_in x6 41) (σ1 := (40, [some (.ref 72), some (.ref 16), some (.int x2), some (.int x3), some (.int x4), some (.int x5), some (.int x6), none, none, none], [], (iq_sh l, (iq_upI I 73 (Int32.toNatClampNeg x6) x6), J, X))) (fun _ => rfl) hc_ ?_
      obtain ⟨I3, eI3, h⟩ := ir_letG h
      rw [← eI3]
      clear eI3
      refine iq_G_go (k := 2) (σ' := (17, [some (.ref 72), some (.ref 16), some (.int x2), some (.int x3), some (.int x4), some (.int x5), some (.int (x6 + (1 : Int32))), none, none, none], [], (iq_sh l, I3, J, X))) (fun _ => rfl) ?_
      cases h
      exact iq_G_fg (L := [some (.ref 72), some (.ref 16), some (.int x2), some (.int x3), some (.int x4), some (.int x5), some (.int (x6 + (1 : Int32))), none, none, none]) (And.intro rfl (And.intro rfl (And.intro rfl (And.intro rfl (And.intro rfl (And.intro rfl (And.intro rfl trivial))))))) (hc ((x6 + (1 : Int32)), I3) rfl)
set_option maxRecDepth 100000 in
theorem zW_fewestChanges_l17_ok (l : Nat)  (x2 : Int32) (x3 : Int32) (x4 : Int32) (x5 : Int32) (J : iq_J) (X : iq_X) {n : Nat} {v : Int32 × iq_I} {w : iq_I} (h : zW_fewestChanges_l17 x2 x3 x4 x5 n v = some w) (r : iq_R × iq_M) (hq : iq_Gg 1 113 (46, [some (.ref 72), some (.ref 16), some (.int x2), some (.int x3), some (.int x4), some (.int x5), none, none, none, none], [], (iq_sh l, w, J, X)) r) : iq_Gg 1 113 (17, [some (.ref 72), some (.ref 16), some (.int x2), some (.int x3), some (.int x4), some (.int x5), some (.int v.1), none, none, none], [], (iq_sh l, v.2, J, X)) r :=
  iq_lp_ok (σ := fun v => (17, [some (.ref 72), some (.ref 16), some (.int x2), some (.int x3), some (.int x4), some (.int x5), some (.int v.1), none, none, none], [], (iq_sh l, v.2, J, X))) (Q := fun w r => iq_Gg 1 113 (46, [some (.ref 72), some (.ref 16), some (.int x2), some (.int x3), some (.int x4), some (.int x5), none, none, none, none], [], (iq_sh l, w, J, X)) r) (fun v q hv r h1 h2 => zW_fewestChanges_l17_bok l x2 x3 x4 x5 J X v.1 v.2 hv r h1 h2) h r hq
set_option maxRecDepth 100000 in
theorem zW_fewestChanges_120_ok (l : Nat)  (x2 : Int32) (x3 : Int32) (x4 : Int32) (x5 : Int32) (x6 : Int32) (x7 : Int32) (x8 : Int32) (s0 : Int32) (s1 : Int32) (I : iq_I) (J : iq_J) (X : iq_X)  {q : (Int32 × iq_I) ⊕ (iq_I)} (h : zW_fewestChanges_120 x2 x3 x4 x5 x6 x7 x8 s0 s1 I = some q) (r : iq_R × iq_M) (hc : ∀ v, q = .inl v → iq_Gg 1 113 (78, [some (.ref 72), some (.ref 16), some (.int x2), some (.int x3), some (.int x4), some (.int x5), some (.int x6), some (.int x7), some (.int v.1), none], [], (iq_sh l, v.2, J, X)) r) (hx : ∀ w, q = .inr w → iq_Gg 1 113 (162, [some (.ref 72), some (.ref 16), some (.int x2), some (.int x3), some (.int x4), some (.int x5), some (.int x6), none, none, none], [], (iq_sh l, w, J, X)) r) : iq_Gg 1 113 (120, [some (.ref 72), some (.ref 16), some (.int x2), some (.int x3), some (.int x4), some (.int x5), some (.int x6), some (.int x7), some (.int x8), none], [.int s1, .int s0], (iq_sh l, I, J, X)) r := by
  unfold zW_fewestChanges_120 at h
  refine iq_G_go (k := 10) (σ' := (138, [some (.ref 72), some (.ref 16), some (.int x2), some (.int x3), some (.int x4), some (.int x5), some (.int x6), some (.int x7), some (.int x8), some (.int (s0 + s1))], [.int x8, .ref 73, .int (1 : Int32), .int (s0 + s1), .int x8, .ref 74], (iq_sh l, I, J, X))) (fun _ => rfl) ?_
  obtain ⟨hc_, h⟩ := iq_itn h
  refine iq_G_pos (c := iq_in x8 41) (σ1 := (139, [some (.ref 72), some (.ref 16), some (.int x2), some (.int x3), some (.int x4), some (.int x5), some (.int x6), some (.int x7), some (.int x8), some (.int (s0 + s1))], [.int (I 73 (Int32.toNatClampNeg x8)), .int (1 : Int32), .int (s0 + s1), .int x8, .ref 74], (iq_sh l, I, J, X))) (fun _ => rfl) hc_ ?_
  refine iq_G_go (k := 5) (σ' := (147, [some (.ref 72), some (.ref 16), some (.int x2), some (.int x3), some (.int x4), some (.int x5), some (.int x6), some (.int x7), some (.int x8), some (.int (s0 + s1))], [.int (x8 - (1 : Int32)), .ref 74, .int (I 73 (Int32.toNatClampNeg x8)), .int (1 : Int32), .int (s0 + s1), .int x8, .ref 74], (iq_sh l, I, J, X))) (fun _ => rfl) ?_
  obtain ⟨hc_, h⟩ := iq_itn h
  have st_ : ∀ (z_0 : Int32) (r_ : iq_R × iq_M), iq_in z_0 41 → iq_Gg 1 113 (148, [some (.ref 72), some (.ref 16), some (.int x2), some (.int x3), some (.int x4), some (.int x5), some (.int x6), some (.int x7), some (.int x8), some (.int (s0 + s1))], [.int (I 74 (Int32.toNatClampNeg z_0)), .int (I 73 (Int32.toNatClampNeg x8)), .int (1 : Int32), .int (s0 + s1), .int x8, .ref 74], (iq_sh l, I, J, X)) r_ → iq_Gg 1 113 (147, [some (.ref 72), some (.ref 16), some (.int x2), some (.int x3), some (.int x4), some (.int x5), some (.int x6), some (.int x7), some (.int x8), some (.int (s0 + s1))], [.int z_0, .ref 74, .int (I 73 (Int32.toNatClampNeg x8)), .int (1 : Int32), .int (s0 + s1), .int x8, .ref 74], (iq_sh l, I, J, X)) r_ := fun z_0 r_ hc_ hg_ => iq_G_pos (c := iq_in z_0 41) (σ1 := (148, [some (.ref 72), some (.ref 16), some (.int x2), some (.int x3), some (.int x4), some (.int x5), some (.int x6), some (.int x7), some (.int x8), some (.int (s0 + s1))], [.int (I 74 (Int32.toNatClampNeg z_0)), .int (I 73 (Int32.toNatClampNeg x8)), .int (1 : Int32), .int (s0 + s1), .int x8, .ref 74], (iq_sh l, I, J, X))) (fun _ => rfl) hc_ hg_
  refine st_ (x8 - (1 : Int32)) _ hc_ ?_
  clear st_
  refine iq_G_go (k := 3) (σ' := (155, [some (.ref 72), some (.ref 16), some (.int x2), some (.int x3), some (.int x4), some (.int x5), some (.int x6), some (.int x7), some (.int x8), some (.int (s0 + s1))], [.int (ir_min (s0 + s1) ((1 : Int32) + (ir_min (I 73 (Int32.toNatClampNeg x8)) (I 74 (Int32.toNatClampNeg (x8 - (1 : Int32))))))), .int x8, .ref 74], (iq_sh l, I, J, X))) (fun _ => rfl) ?_
  obtain ⟨hc_, h⟩ := iq_itn h
  refine iq_G_pos (c := iq_in x8 41) (σ1 := (156, [some (.ref 72), some (.ref 16), some (.int x2), some (.int x3), some (.int x4), some (.int x5), some (.int x6), some (.int x7), some (.int x8), some (.int (s0 + s1))], [], (iq_sh l, (iq_upI I 74 (Int32.toNatClampNeg x8) (ir_min (s0 + s1) ((1 : Int32) + (ir_min (I 73 (Int32.toNatClampNeg x8)) (I 74 (Int32.toNatClampNeg (x8 - (1 : Int32)))))))), J, X))) (fun _ => rfl) hc_ ?_
  obtain ⟨I8, eI8, h⟩ := ir_letG h
  rw [← eI8]
  clear eI8
  refine iq_G_go (k := 2) (σ' := (78, [some (.ref 72), some (.ref 16), some (.int x2), some (.int x3), some (.int x4), some (.int x5), some (.int x6), some (.int x7), some (.int (x8 + (1 : Int32))), some (.int (s0 + s1))], [], (iq_sh l, I8, J, X))) (fun _ => rfl) ?_
  cases h
  exact iq_G_fg (L := [some (.ref 72), some (.ref 16), some (.int x2), some (.int x3), some (.int x4), some (.int x5), some (.int x6), some (.int x7), some (.int (x8 + (1 : Int32))), none]) (And.intro rfl (And.intro rfl (And.intro rfl (And.intro rfl (And.intro rfl (And.intro rfl (And.intro rfl (And.intro rfl (And.intro rfl trivial))))))))) (hc ((x8 + (1 : Int32)), I8) rfl)
set_option maxRecDepth 100000 in
theorem zW_fewestChanges_l78_bok (l : Nat)  (x2 : Int32) (x3 : Int32) (x4 : Int32) (x5 : Int32) (x6 : Int32) (x7 : Int32) (J : iq_J) (X : iq_X) (x8 : Int32) (I : iq_I) {q : (Int32 × iq_I) ⊕ (iq_I)} (h : zW_fewestChanges_l78_b x2 x3 x4 x5 x6 x7 x8 I = some q) (r : iq_R × iq_M) (hc : ∀ v, q = .inl v → iq_Gg 1 113 (78, [some (.ref 72), some (.ref 16), some (.int x2), some (.int x3), some (.int x4), some (.int x5), some (.int x6), some (.int x7), some (.int v.1), none], [], (iq_sh l, v.2, J, X)) r) (hx : ∀ w, q = .inr w → iq_Gg 1 113 (162, [some (.ref 72), some (.ref 16), some (.int x2), some (.int x3), some (.int x4), some (.int x5), some (.int x6), none, none, none], [], (iq_sh l, w, J, X)) r) : iq_Gg 1 113 (78, [some (.ref 72), some (.ref 16), some (.int x2), some (.int x3), some (.int x4), some (.int x5), some (.int x6), some (.int x7), some (.int x8), none], [], (iq_sh l, I, J, X)) r := by
  unfold zW_fewestChanges_l78_b at h
  refine iq_G_go (k := 2) (σ' := (82, [some (.ref 72), some (.ref 16), some (.int x2), some (.int x3), some (.int x4), some (.int x5), some (.int x6), some (.int x7), some (.int x8), none], [.int x5, .int x8], (iq_sh l, I, J, X))) (fun _ => rfl) ?_
  rcases iq_ite h with ⟨hc_, h⟩ | ⟨hc_, h⟩
  · refine iq_G_pos (c := x5 < x8) (σ1 := (162, [some (.ref 72), some (.ref 16), some (.int x2), some (.int x3), some (.int x4), some (.int x5), some (.int x6), some (.int x7), some (.int x8), none], [], (iq_sh l, I, J, X))) (fun _ => rfl) hc_ ?_
    cases h
    exact iq_G_fg (L := [some (.ref 72), some (.ref 16), some (.int x2), some (.int x3), some (.int x4), some (.int x5), some (.int x6), none, none, none]) (And.intro rfl (And.intro rfl (And.intro rfl (And.intro rfl (And.intro rfl (And.intro rfl (And.intro rfl trivial))))))) (hx I rfl)
  · refine iq_G_neg (c := x5 < x8) (σ1 := (85, [some (.ref 72), some (.ref 16), some (.int x2), some (.int x3), some (.int x4), some (.int x5), some (.int x6), some (.int x7), some (.int x8), none], [], (iq_sh l, I, J, X))) (fun _ => rfl) hc_ ?_
    refine iq_G_go (k := 2) (σ' := (89, [some (.ref 72), some (.ref 16), some (.int x2), some (.int x3), some (.int x4), some (.int x5), some (.int x6), some (.int x7), some (.int x8), none], [.int (40 : Int32), .int x8], (iq_sh l, I, J, X))) (fun _ => rfl) ?_
    rcases iq_ite h with ⟨hc_, h⟩ | ⟨hc_, h⟩
    · refine iq_G_pos (c := (40 : Int32) < x8) (σ1 := (162, [some (.ref 72), some (.ref 16), some (.int x2), some (.int x3), some (.int x4), some (.int x5), some (.int x6), some (.int x7), some (.int x8), none], [], (iq_sh l, I, J, X))) (fun _ => rfl) hc_ ?_
      cases h
      exact iq_G_fg (L := [some (.ref 72), some (.ref 16), some (.int x2), some (.int x3), some (.int x4), some (.int x5), some (.int x6), none, none, none]) (And.intro rfl (And.intro rfl (And.intro rfl (And.intro rfl (And.intro rfl (And.intro rfl (And.intro rfl trivial))))))) (hx I rfl)
    · refine iq_G_neg (c := (40 : Int32) < x8) (σ1 := (92, [some (.ref 72), some (.ref 16), some (.int x2), some (.int x3), some (.int x4), some (.int x5), some (.int x6), some (.int x7), some (.int x8), none], [], (iq_sh l, I, J, X))) (fun _ => rfl) hc_ ?_
      refine iq_G_go (k := 5) (σ' := (100, [some (.ref 72), some (.ref 16), some (.int x2), some (.int x3), some (.int x4), some (.int x5), some (.int x6), some (.int x7), some (.int x8), none], [.int (x8 - (1 : Int32)), .ref 73], (iq_sh l, I, J, X))) (fun _ => rfl) ?_
      obtain ⟨hc_, h⟩ := iq_itn h
      have st_ : ∀ (z_0 : Int32) (r_ : iq_R × iq_M), iq_in z_0 41 → iq_Gg 1 113 (101, [some (.ref 72), some (.ref 16), some (.int x2), some (.int x3), some (.int x4), some (.int x5), some (.int x6), some (.int x7), some (.int x8), none], [.int (I 73 (Int32.toNatClampNeg z_0))], (iq_sh l, I, J, X)) r_ → iq_Gg 1 113 (100, [some (.ref 72), some (.ref 16), some (.int x2), some (.int x3), some (.int x4), some (.int x5), some (.int x6), some (.int x7), some (.int x8), none], [.int z_0, .ref 73], (iq_sh l, I, J, X)) r_ := fun z_0 r_ hc_ hg_ => iq_G_pos (c := iq_in z_0 41) (σ1 := (101, [some (.ref 72), some (.ref 16), some (.int x2), some (.int x3), some (.int x4), some (.int x5), some (.int x6), some (.int x7), some (.int x8), none], [.int (I 73 (Int32.toNatClampNeg z_0))], (iq_sh l, I, J, X))) (fun _ => rfl) hc_ hg_
      refine st_ (x8 - (1 : Int32)) _ hc_ ?_
      clear st_
      refine iq_G_go (k := 6) (σ' := (109, [some (.ref 72), some (.ref 16), some (.int x2), some (.int x3), some (.int x4), some (.int x5), some (.int x6), some (.int x7), some (.int x8), none], [.int (x8 - (1 : Int32)), .int x3, .ref 16, .int x7, .int (I 73 (Int32.toNatClampNeg (x8 - (1 : Int32))))], (iq_sh l, I, J, X))) (fun _ => rfl) ?_
      obtain ⟨q7, hq7, h⟩ := iq_bnd h
      refine iq_G_call (σ' := (112, [some (.ref 72), some (.ref 16), some (.int x2), some (.int x3), some (.int x4), some (.int x5), some (.int x6), some (.int x7), some (.int x8), none], [.int q7, .int x7, .int (I 73 (Int32.toNatClampNeg (x8 - (1 : Int32))))], (iq_sh l, I, J, X))) (fun _ => rfl) (zG_wordAt_16_ok l x3 (x8 - (1 : Int32)) I J X hq7) rfl rfl ?_
      rcases iq_ite h with ⟨hc_, h⟩ | ⟨hc_, h⟩
      · refine iq_G_pos (c := ¬ x7 = q7) (σ1 := (119, [some (.ref 72), some (.ref 16), some (.int x2), some (.int x3), some (.int x4), some (.int x5), some (.int x6), some (.int x7), some (.int x8), none], [.int (I 73 (Int32.toNatClampNeg (x8 - (1 : Int32))))], (iq_sh l, I, J, X))) (fun _ => rfl) hc_ ?_
        refine iq_G_go (k := 1) (σ' := (120, [some (.ref 72), some (.ref 16), some (.int x2), some (.int x3), some (.int x4), some (.int x5), some (.int x6), some (.int x7), some (.int x8), none], [.int (1 : Int32), .int (I 73 (Int32.toNatClampNeg (x8 - (1 : Int32))))], (iq_sh l, I, J, X))) (fun _ => rfl) ?_
        exact iq_G_fg (L := [some (.ref 72), some (.ref 16), some (.int x2), some (.int x3), some (.int x4), some (.int x5), some (.int x6), some (.int x7), some (.int x8), none]) (And.intro rfl (And.intro rfl (And.intro rfl (And.intro rfl (And.intro rfl (And.intro rfl (And.intro rfl (And.intro rfl (And.intro rfl trivial))))))))) (zW_fewestChanges_120_ok l x2 x3 x4 x5 x6 x7 x8 (I 73 (Int32.toNatClampNeg (x8 - (1 : Int32)))) (1 : Int32) I J X  h r hc hx)
      · refine iq_G_neg (c := ¬ x7 = q7) (σ1 := (115, [some (.ref 72), some (.ref 16), some (.int x2), some (.int x3), some (.int x4), some (.int x5), some (.int x6), some (.int x7), some (.int x8), none], [.int (I 73 (Int32.toNatClampNeg (x8 - (1 : Int32))))], (iq_sh l, I, J, X))) (fun _ => rfl) hc_ ?_
        refine iq_G_go (k := 2) (σ' := (120, [some (.ref 72), some (.ref 16), some (.int x2), some (.int x3), some (.int x4), some (.int x5), some (.int x6), some (.int x7), some (.int x8), none], [.int (0 : Int32), .int (I 73 (Int32.toNatClampNeg (x8 - (1 : Int32))))], (iq_sh l, I, J, X))) (fun _ => rfl) ?_
        exact iq_G_fg (L := [some (.ref 72), some (.ref 16), some (.int x2), some (.int x3), some (.int x4), some (.int x5), some (.int x6), some (.int x7), some (.int x8), none]) (And.intro rfl (And.intro rfl (And.intro rfl (And.intro rfl (And.intro rfl (And.intro rfl (And.intro rfl (And.intro rfl (And.intro rfl trivial))))))))) (zW_fewestChanges_120_ok l x2 x3 x4 x5 x6 x7 x8 (I 73 (Int32.toNatClampNeg (x8 - (1 : Int32)))) (0 : Int32) I J X  h r hc hx)
set_option maxRecDepth 100000 in
theorem zW_fewestChanges_l78_ok (l : Nat)  (x2 : Int32) (x3 : Int32) (x4 : Int32) (x5 : Int32) (x6 : Int32) (x7 : Int32) (J : iq_J) (X : iq_X) {n : Nat} {v : Int32 × iq_I} {w : iq_I} (h : zW_fewestChanges_l78 x2 x3 x4 x5 x6 x7 n v = some w) (r : iq_R × iq_M) (hq : iq_Gg 1 113 (162, [some (.ref 72), some (.ref 16), some (.int x2), some (.int x3), some (.int x4), some (.int x5), some (.int x6), none, none, none], [], (iq_sh l, w, J, X)) r) : iq_Gg 1 113 (78, [some (.ref 72), some (.ref 16), some (.int x2), some (.int x3), some (.int x4), some (.int x5), some (.int x6), some (.int x7), some (.int v.1), none], [], (iq_sh l, v.2, J, X)) r :=
  iq_lp_ok (σ := fun v => (78, [some (.ref 72), some (.ref 16), some (.int x2), some (.int x3), some (.int x4), some (.int x5), some (.int x6), some (.int x7), some (.int v.1), none], [], (iq_sh l, v.2, J, X))) (Q := fun w r => iq_Gg 1 113 (162, [some (.ref 72), some (.ref 16), some (.int x2), some (.int x3), some (.int x4), some (.int x5), some (.int x6), none, none, none], [], (iq_sh l, w, J, X)) r) (fun v q hv r h1 h2 => zW_fewestChanges_l78_bok l x2 x3 x4 x5 x6 x7 J X v.1 v.2 hv r h1 h2) h r hq
set_option maxRecDepth 100000 in
theorem zW_fewestChanges_162_ok (l : Nat)  (x2 : Int32) (x3 : Int32) (x4 : Int32) (x5 : Int32) (x6 : Int32) (I : iq_I) (J : iq_J) (X : iq_X)  {q : (Int32 × iq_I) ⊕ (iq_I)} (h : zW_fewestChanges_162 x2 x3 x4 x5 x6 I = some q) (r : iq_R × iq_M) (hc : ∀ v, q = .inl v → iq_Gg 1 113 (49, [some (.ref 72), some (.ref 16), some (.int x2), some (.int x3), some (.int x4), some (.int x5), some (.int v.1), none, none, none], [], (iq_sh l, v.2, J, X)) r) (hx : ∀ w, q = .inr w → iq_Gg 1 113 (186, [some (.ref 72), none, none, none, none, some (.int x5), none, none, none, none], [], (iq_sh l, w, J, X)) r) : iq_Gg 1 113 (162, [some (.ref 72), some (.ref 16), some (.int x2), some (.int x3), some (.int x4), some (.int x5), some (.int x6), none, none, none], [], (iq_sh l, I, J, X)) r := by
  unfold zW_fewestChanges_162 at h
  refine iq_G_go (k := 9) (σ' := (177, [some (.ref 72), some (.ref 16), some (.int x2), some (.int x3), some (.int x4), some (.int x5), some (.int x6), none, none, none], [.int (41 : Int32), .int (0 : Int32), .ref 73, .int (0 : Int32), .ref 74], (iq_sh l, I, J, X))) (fun _ => rfl) ?_
  refine iq_G_go (k := 1) (σ' := (180, [some (.ref 72), some (.ref 16), some (.int x2), some (.int x3), some (.int x4), some (.int x5), some (.int x6), none, none, none], [], (iq_sh l, (iq_cpI I 74 73 0 0 41), J, X))) (fun _ => rfl) ?_
  obtain ⟨I10, eI10, h⟩ := ir_letG h
  rw [← eI10]
  clear eI10
  refine iq_G_go (k := 2) (σ' := (49, [some (.ref 72), some (.ref 16), some (.int x2), some (.int x3), some (.int x4), some (.int x5), some (.int (x6 + (1 : Int32))), none, none, none], [], (iq_sh l, I10, J, X))) (fun _ => rfl) ?_
  cases h
  exact iq_G_fg (L := [some (.ref 72), some (.ref 16), some (.int x2), some (.int x3), some (.int x4), some (.int x5), some (.int (x6 + (1 : Int32))), none, none, none]) (And.intro rfl (And.intro rfl (And.intro rfl (And.intro rfl (And.intro rfl (And.intro rfl (And.intro rfl trivial))))))) (hc ((x6 + (1 : Int32)), I10) rfl)
set_option maxRecDepth 100000 in
theorem zW_fewestChanges_l49_bok (l : Nat)  (x2 : Int32) (x3 : Int32) (x4 : Int32) (x5 : Int32) (J : iq_J) (X : iq_X) (x6 : Int32) (I : iq_I) {q : (Int32 × iq_I) ⊕ (iq_I)} (h : zW_fewestChanges_l49_b x2 x3 x4 x5 x6 I = some q) (r : iq_R × iq_M) (hc : ∀ v, q = .inl v → iq_Gg 1 113 (49, [some (.ref 72), some (.ref 16), some (.int x2), some (.int x3), some (.int x4), some (.int x5), some (.int v.1), none, none, none], [], (iq_sh l, v.2, J, X)) r) (hx : ∀ w, q = .inr w → iq_Gg 1 113 (186, [some (.ref 72), none, none, none, none, some (.int x5), none, none, none, none], [], (iq_sh l, w, J, X)) r) : iq_Gg 1 113 (49, [some (.ref 72), some (.ref 16), some (.int x2), some (.int x3), some (.int x4), some (.int x5), some (.int x6), none, none, none], [], (iq_sh l, I, J, X)) r := by
  unfold zW_fewestChanges_l49_b at h
  refine iq_G_go (k := 2) (σ' := (53, [some (.ref 72), some (.ref 16), some (.int x2), some (.int x3), some (.int x4), some (.int x5), some (.int x6), none, none, none], [.int x4, .int x6], (iq_sh l, I, J, X))) (fun _ => rfl) ?_
  rcases iq_ite h with ⟨hc_, h⟩ | ⟨hc_, h⟩
  · refine iq_G_pos (c := x4 < x6) (σ1 := (186, [some (.ref 72), some (.ref 16), some (.int x2), some (.int x3), some (.int x4), some (.int x5), some (.int x6), none, none, none], [], (iq_sh l, I, J, X))) (fun _ => rfl) hc_ ?_
    cases h
    exact iq_G_fg (L := [some (.ref 72), none, none, none, none, some (.int x5), none, none, none, none]) (And.intro rfl (And.intro rfl trivial)) (hx I rfl)
  · refine iq_G_neg (c := x4 < x6) (σ1 := (56, [some (.ref 72), some (.ref 16), some (.int x2), some (.int x3), some (.int x4), some (.int x5), some (.int x6), none, none, none], [], (iq_sh l, I, J, X))) (fun _ => rfl) hc_ ?_
    refine iq_G_go (k := 5) (σ' := (62, [some (.ref 72), some (.ref 16), some (.int x2), some (.int x3), some (.int x4), some (.int x5), some (.int x6), none, none, none], [.int (x6 - (1 : Int32)), .int x2, .ref 16], (iq_sh l, I, J, X))) (fun _ => rfl) ?_
    obtain ⟨q5, hq5, h⟩ := iq_bnd h
    refine iq_G_call (σ' := (65, [some (.ref 72), some (.ref 16), some (.int x2), some (.int x3), some (.int x4), some (.int x5), some (.int x6), none, none, none], [.int q5], (iq_sh l, I, J, X))) (fun _ => rfl) (zG_wordAt_16_ok l x2 (x6 - (1 : Int32)) I J X hq5) rfl rfl ?_
    refine iq_G_go (k := 5) (σ' := (74, [some (.ref 72), some (.ref 16), some (.int x2), some (.int x3), some (.int x4), some (.int x5), some (.int x6), some (.int q5), none, none], [.int x6, .int (0 : Int32), .ref 74], (iq_sh l, I, J, X))) (fun _ => rfl) ?_
    refine iq_G_go (k := 1) (σ' := (75, [some (.ref 72), some (.ref 16), some (.int x2), some (.int x3), some (.int x4), some (.int x5), some (.int x6), some (.int q5), none, none], [], (iq_sh l, (iq_upI I 74 0 x6), J, X))) (fun _ => rfl) ?_
    obtain ⟨I6, eI6, h⟩ := ir_letG h
    rw [← eI6]
    clear eI6
    refine iq_G_go (k := 2) (σ' := (78, [some (.ref 72), some (.ref 16), some (.int x2), some (.int x3), some (.int x4), some (.int x5), some (.int x6), some (.int q5), some (.int (1 : Int32)), none], [], (iq_sh l, I6, J, X))) (fun _ => rfl) ?_
    obtain ⟨w9, hw9, h⟩ := iq_bnd h
    refine iq_G_fg (L := [some (.ref 72), some (.ref 16), some (.int x2), some (.int x3), some (.int x4), some (.int x5), some (.int x6), some (.int q5), some (.int (1 : Int32)), none]) (And.intro rfl (And.intro rfl (And.intro rfl (And.intro rfl (And.intro rfl (And.intro rfl (And.intro rfl (And.intro rfl (And.intro rfl trivial))))))))) ?_
    refine zW_fewestChanges_l78_ok l x2 x3 x4 x5 x6 q5 J X hw9 _ ?_
    show iq_Gg 1 113 (162, [some (.ref 72), some (.ref 16), some (.int x2), some (.int x3), some (.int x4), some (.int x5), some (.int x6), none, none, none], [], (iq_sh l, w9, J, X)) _
    exact iq_G_fg (L := [some (.ref 72), some (.ref 16), some (.int x2), some (.int x3), some (.int x4), some (.int x5), some (.int x6), none, none, none]) (And.intro rfl (And.intro rfl (And.intro rfl (And.intro rfl (And.intro rfl (And.intro rfl (And.intro rfl trivial))))))) (zW_fewestChanges_162_ok l x2 x3 x4 x5 x6 w9 J X  h r hc hx)
set_option maxRecDepth 100000 in
theorem zW_fewestChanges_l49_ok (l : Nat)  (x2 : Int32) (x3 : Int32) (x4 : Int32) (x5 : Int32) (J : iq_J) (X : iq_X) {n : Nat} {v : Int32 × iq_I} {w : iq_I} (h : zW_fewestChanges_l49 x2 x3 x4 x5 n v = some w) (r : iq_R × iq_M) (hq : iq_Gg 1 113 (186, [some (.ref 72), none, none, none, none, some (.int x5), none, none, none, none], [], (iq_sh l, w, J, X)) r) : iq_Gg 1 113 (49, [some (.ref 72), some (.ref 16), some (.int x2), some (.int x3), some (.int x4), some (.int x5), some (.int v.1), none, none, none], [], (iq_sh l, v.2, J, X)) r :=
  iq_lp_ok (σ := fun v => (49, [some (.ref 72), some (.ref 16), some (.int x2), some (.int x3), some (.int x4), some (.int x5), some (.int v.1), none, none, none], [], (iq_sh l, v.2, J, X))) (Q := fun w r => iq_Gg 1 113 (186, [some (.ref 72), none, none, none, none, some (.int x5), none, none, none, none], [], (iq_sh l, w, J, X)) r) (fun v q hv r h1 h2 => zW_fewestChanges_l49_bok l x2 x3 x4 x5 J X v.1 v.2 hv r h1 h2) h r hq
set_option maxRecDepth 100000 in
theorem zW_fewestChanges_46_ok (l : Nat)  (x2 : Int32) (x3 : Int32) (x4 : Int32) (x5 : Int32) (I : iq_I) (J : iq_J) (X : iq_X)  {q : Int32 × iq_I} (h : zW_fewestChanges_46 x2 x3 x4 x5 I = some q)  : iq_Gg 1 113 (46, [some (.ref 72), some (.ref 16), some (.int x2), some (.int x3), some (.int x4), some (.int x5), none, none, none, none], [], (iq_sh l, I, J, X)) (.inl (some (.int q.1)), (iq_sh l, q.2, J, X)) := by
  unfold zW_fewestChanges_46 at h
  refine iq_G_go (k := 2) (σ' := (49, [some (.ref 72), some (.ref 16), some (.int x2), some (.int x3), some (.int x4), some (.int x5), some (.int (1 : Int32)), none, none, none], [], (iq_sh l, I, J, X))) (fun _ => rfl) ?_
  obtain ⟨w11, hw11, h⟩ := iq_bnd h
  refine iq_G_fg (L := [some (.ref 72), some (.ref 16), some (.int x2), some (.int x3), some (.int x4), some (.int x5), some (.int (1 : Int32)), none, none, none]) (And.intro rfl (And.intro rfl (And.intro rfl (And.intro rfl (And.intro rfl (And.intro rfl (And.intro rfl trivial))))))) ?_
  refine zW_fewestChanges_l49_ok l x2 x3 x4 x5 J X hw11 _ ?_
  show iq_Gg 1 113 (186, [some (.ref 72), none, none, none, none, some (.int x5), none, none, none, none], [], (iq_sh l, w11, J, X)) _
  refine iq_G_go (k := 1) (σ' := (188, [some (.ref 72), none, none, none, none, some (.int x5), none, none, none, none], [.int x5], (iq_sh l, w11, J, X))) (fun _ => rfl) ?_
  rcases iq_ite h with ⟨hc_, h⟩ | ⟨hc_, h⟩
  · refine iq_G_pos (c := x5 < 0) (σ1 := (208, [some (.ref 72), none, none, none, none, some (.int x5), none, none, none, none], [], (iq_sh l, w11, J, X))) (fun _ => rfl) hc_ ?_
    refine iq_G_go (k := 1) (σ' := (209, [some (.ref 72), none, none, none, none, some (.int x5), none, none, none, none], [.int (0 : Int32)], (iq_sh l, w11, J, X))) (fun _ => rfl) ?_
    cases h
    exact iq_G_ret (fun _ => rfl)
  · refine iq_G_neg (c := x5 < 0) (σ1 := (191, [some (.ref 72), none, none, none, none, some (.int x5), none, none, none, none], [], (iq_sh l, w11, J, X))) (fun _ => rfl) hc_ ?_
    refine iq_G_go (k := 2) (σ' := (195, [some (.ref 72), none, none, none, none, some (.int x5), none, none, none, none], [.int (40 : Int32), .int x5], (iq_sh l, w11, J, X))) (fun _ => rfl) ?_
    rcases iq_ite h with ⟨hc_, h⟩ | ⟨hc_, h⟩
    · refine iq_G_pos (c := (40 : Int32) < x5) (σ1 := (208, [some (.ref 72), none, none, none, none, some (.int x5), none, none, none, none], [], (iq_sh l, w11, J, X))) (fun _ => rfl) hc_ ?_
      refine iq_G_go (k := 1) (σ' := (209, [some (.ref 72), none, none, none, none, some (.int x5), none, none, none, none], [.int (0 : Int32)], (iq_sh l, w11, J, X))) (fun _ => rfl) ?_
      cases h
      exact iq_G_ret (fun _ => rfl)
    · refine iq_G_neg (c := (40 : Int32) < x5) (σ1 := (198, [some (.ref 72), none, none, none, none, some (.int x5), none, none, none, none], [], (iq_sh l, w11, J, X))) (fun _ => rfl) hc_ ?_
      refine iq_G_go (k := 3) (σ' := (204, [some (.ref 72), none, none, none, none, some (.int x5), none, none, none, none], [.int x5, .ref 73], (iq_sh l, w11, J, X))) (fun _ => rfl) ?_
      obtain ⟨hc_, h⟩ := iq_itn h
      refine iq_G_pos (c := iq_in x5 41) (σ1 := (205, [some (.ref 72), none, none, none, none, some (.int x5), none, none, none, none], [.int (w11 73 (Int32.toNatClampNeg x5))], (iq_sh l, w11, J, X))) (fun _ => rfl) hc_ ?_
      refine iq_G_go (k := 1) (σ' := (209, [some (.ref 72), none, none, none, none, some (.int x5), none, none, none, none], [.int (w11 73 (Int32.toNatClampNeg x5))], (iq_sh l, w11, J, X))) (fun _ => rfl) ?_
      cases h
      exact iq_G_ret (fun _ => rfl)
set_option maxRecDepth 100000 in
theorem zW_fewestChanges_ok (l : Nat)  (x2 : Int32) (x3 : Int32) (I : iq_I) (J : iq_J) (X : iq_X) {q : Int32 × iq_I} (h : zW_fewestChanges x2 x3 I = some q) : iq_Cc 2 113 [.ref 72, .ref 16, .int x2, .int x3] (iq_sh l, I, J, X) (.inl (some (.int q.1)), (iq_sh l, q.2, J, X)) := by
  refine iq_Cc_of (L := [some (.ref 72), some (.ref 16), some (.int x2), some (.int x3), none, none, none, none, none, none]) rfl rfl ?_
  unfold zW_fewestChanges at h
  refine iq_G_go (k := 2) (σ' := (2, [some (.ref 72), some (.ref 16), some (.int x2), some (.int x3), none, none, none, none, none, none], [.int x2, .ref 16], (iq_sh l, I, J, X))) (fun _ => rfl) ?_
  obtain ⟨q1, hq1, h⟩ := iq_bnd h
  refine iq_G_call (σ' := (5, [some (.ref 72), some (.ref 16), some (.int x2), some (.int x3), none, none, none, none, none, none], [.int q1], (iq_sh l, I, J, X))) (fun _ => rfl) (zG_lengthOf_16_ok l x2 I J X hq1) rfl rfl ?_
  refine iq_G_go (k := 3) (σ' := (9, [some (.ref 72), some (.ref 16), some (.int x2), some (.int x3), some (.int q1), none, none, none, none, none], [.int x3, .ref 16], (iq_sh l, I, J, X))) (fun _ => rfl) ?_
  obtain ⟨q2, hq2, h⟩ := iq_bnd h
  refine iq_G_call (σ' := (12, [some (.ref 72), some (.ref 16), some (.int x2), some (.int x3), some (.int q1), none, none, none, none, none], [.int q2], (iq_sh l, I, J, X))) (fun _ => rfl) (zG_lengthOf_16_ok l x3 I J X hq2) rfl rfl ?_
  refine iq_G_go (k := 3) (σ' := (17, [some (.ref 72), some (.ref 16), some (.int x2), some (.int x3), some (.int q1), some (.int q2), some (.int (0 : Int32)), none, none, none], [], (iq_sh l, I, J, X))) (fun _ => rfl) ?_
  obtain ⟨w4, hw4, h⟩ := iq_bnd h
  refine iq_G_fg (L := [some (.ref 72), some (.ref 16), some (.int x2), some (.int x3), some (.int q1), some (.int q2), some (.int (0 : Int32)), none, none, none]) (And.intro rfl (And.intro rfl (And.intro rfl (And.intro rfl (And.intro rfl (And.intro rfl (And.intro rfl trivial))))))) ?_
  refine zW_fewestChanges_l17_ok l x2 x3 q1 q2 J X hw4 _ ?_
  show iq_Gg 1 113 (46, [some (.ref 72), some (.ref 16), some (.int x2), some (.int x3), some (.int q1), some (.int q2), none, none, none, none], [], (iq_sh l, w4, J, X)) _
  exact iq_G_fg (L := [some (.ref 72), some (.ref 16), some (.int x2), some (.int x3), some (.int q1), some (.int q2), none, none, none, none]) (And.intro rfl (And.intro rfl (And.intro rfl (And.intro rfl (And.intro rfl (And.intro rfl trivial)))))) (zW_fewestChanges_46_ok l x2 x3 q1 q2 w4 J X  h )
set_option maxRecDepth 100000 in
theorem zW_nearestTwo_l24_bok (l : Nat)  (x4 : Int32) (J : iq_J) (X : iq_X) (x2 : Int32) (x3 : Int32) (x5 : Int32) (I : iq_I) {q : (Int32 × Int32 × Int32 × iq_I) ⊕ (Int32 × Int32 × iq_I)} (h : zW_nearestTwo_l24_b x4 x2 x3 x5 I = some q) (r : iq_R × iq_M) (hc : ∀ v, q = .inl v → iq_Gg 2 114 (24, [some (.ref 72), some (.ref 16), some (.int v.1), some (.int v.2.1), some (.int x4), some (.int v.2.2.1), none], [], (iq_sh l, v.2.2.2, J, X)) r) (hx : ∀ w, q = .inr w → iq_Gg 2 114 (68, [some (.ref 72), some (.ref 16), some (.int w.1), some (.int w.2.1), some (.int x4), none, none], [], (iq_sh l, w.2.2, J, X)) r) : iq_Gg 2 114 (24, [some (.ref 72), some (.ref 16), some (.int x2), some (.int x3), some (.int x4), some (.int x5), none], [], (iq_sh l, I, J, X)) r := by
  unfold zW_nearestTwo_l24_b at h
  refine iq_G_go (k := 3) (σ' := (30, [some (.ref 72), some (.ref 16), some (.int x2), some (.int x3), some (.int x4), some (.int x5), none], [.int (I 16 0), .int x5], (iq_sh l, I, J, X))) (fun _ => rfl) ?_
  rcases iq_ite h with ⟨hc_, h⟩ | ⟨hc_, h⟩
  · refine iq_G_pos (c := (I 16 0) ≤ x5) (σ1 := (68, [some (.ref 72), some (.ref 16), some (.int x2), some (.int x3), some (.int x4), some (.int x5), none], [], (iq_sh l, I, J, X))) (fun _ => rfl) hc_ ?_
    cases h
    exact iq_G_fg (L := [some (.ref 72), some (.ref 16), some (.int x2), some (.int x3), some (.int x4), none, none]) (And.intro rfl (And.intro rfl (And.intro rfl (And.intro rfl (And.intro rfl trivial))))) (hx (x2, x3, I) rfl)
  · refine iq_G_neg (c := (I 16 0) ≤ x5) (σ1 := (33, [some (.ref 72), some (.ref 16), some (.int x2), some (.int x3), some (.int x4), some (.int x5), none], [], (iq_sh l, I, J, X))) (fun _ => rfl) hc_ ?_
    refine iq_G_go (k := 4) (σ' := (39, [some (.ref 72), some (.ref 16), some (.int x2), some (.int x3), some (.int x4), some (.int x5), none], [.int x5, .int x4, .ref 16, .ref 72], (iq_sh l, I, J, X))) (fun _ => rfl) ?_
    obtain ⟨q1, hq1, h⟩ := iq_bnd h
    refine iq_G_call (σ' := (42, [some (.ref 72), some (.ref 16), some (.int x2), some (.int x3), some (.int x4), some (.int x5), none], [.int q1.1], (iq_sh l, q1.2, J, X))) (fun _ => rfl) (zW_fewestChanges_ok l x4 x5 I J X hq1) rfl rfl ?_
    refine iq_G_go (k := 3) (σ' := (47, [some (.ref 72), some (.ref 16), some (.int x2), some (.int x3), some (.int x4), some (.int x5), some (.int q1.1)], [.int x3, .int q1.1], (iq_sh l, q1.2, J, X))) (fun _ => rfl) ?_
    rcases iq_ite h with ⟨hc_, h⟩ | ⟨hc_, h⟩
    · refine iq_G_pos (c := x3 ≤ q1.1) (σ1 := (62, [some (.ref 72), some (.ref 16), some (.int x2), some (.int x3), some (.int x4), some (.int x5), some (.int q1.1)], [], (iq_sh l, q1.2, J, X))) (fun _ => rfl) hc_ ?_
      refine iq_G_go (k := 2) (σ' := (24, [some (.ref 72), some (.ref 16), some (.int x2), some (.int x3), some (.int x4), some (.int (x5 + (1 : Int32))), some (.int q1.1)], [], (iq_sh l, q1.2, J, X))) (fun _ => rfl) ?_
      cases h
      exact iq_G_fg (L := [some (.ref 72), some (.ref 16), some (.int x2), some (.int x3), some (.int x4), some (.int (x5 + (1 : Int32))), none]) (And.intro rfl (And.intro rfl (And.intro rfl (And.intro rfl (And.intro rfl (And.intro rfl trivial)))))) (hc (x2, x3, (x5 + (1 : Int32)), q1.2) rfl)
    · refine iq_G_neg (c := x3 ≤ q1.1) (σ1 := (50, [some (.ref 72), some (.ref 16), some (.int x2), some (.int x3), some (.int x4), some (.int x5), some (.int q1.1)], [], (iq_sh l, q1.2, J, X))) (fun _ => rfl) hc_ ?_
      refine iq_G_go (k := 10) (σ' := (24, [some (.ref 72), some (.ref 16), some (.int (((10 : Int32) * x4) + x5)), some (.int q1.1), some (.int x4), some (.int (x5 + (1 : Int32))), some (.int q1.1)], [], (iq_sh l, q1.2, J, X))) (fun _ => rfl) ?_
      cases h
      exact iq_G_fg (L := [some (.ref 72), some (.ref 16), some (.int (((10 : Int32) * x4) + x5)), some (.int q1.1), some (.int x4), some (.int (x5 + (1 : Int32))), none]) (And.intro rfl (And.intro rfl (And.intro rfl (And.intro rfl (And.intro rfl (And.intro rfl trivial)))))) (hc ((((10 : Int32) * x4) + x5), q1.1, (x5 + (1 : Int32)), q1.2) rfl)
set_option maxRecDepth 100000 in
theorem zW_nearestTwo_l24_ok (l : Nat)  (x4 : Int32) (J : iq_J) (X : iq_X) {n : Nat} {v : Int32 × Int32 × Int32 × iq_I} {w : Int32 × Int32 × iq_I} (h : zW_nearestTwo_l24 x4 n v = some w) (r : iq_R × iq_M) (hq : iq_Gg 2 114 (68, [some (.ref 72), some (.ref 16), some (.int w.1), some (.int w.2.1), some (.int x4), none, none], [], (iq_sh l, w.2.2, J, X)) r) : iq_Gg 2 114 (24, [some (.ref 72), some (.ref 16), some (.int v.1), some (.int v.2.1), some (.int x4), some (.int v.2.2.1), none], [], (iq_sh l, v.2.2.2, J, X)) r :=
  iq_lp_ok (σ := fun v => (24, [some (.ref 72), some (.ref 16), some (.int v.1), some (.int v.2.1), some (.int x4), some (.int v.2.2.1), none], [], (iq_sh l, v.2.2.2, J, X))) (Q := fun w r => iq_Gg 2 114 (68, [some (.ref 72), some (.ref 16), some (.int w.1), some (.int w.2.1), some (.int x4), none, none], [], (iq_sh l, w.2.2, J, X)) r) (fun v q hv r h1 h2 => zW_nearestTwo_l24_bok l x4 J X v.1 v.2.1 v.2.2.1 v.2.2.2 hv r h1 h2) h r hq
set_option maxRecDepth 100000 in
theorem zW_nearestTwo_l9_bok (l : Nat)   (J : iq_J) (X : iq_X) (x2 : Int32) (x3 : Int32) (x4 : Int32) (I : iq_I) {q : (Int32 × Int32 × Int32 × iq_I) ⊕ (Int32 × iq_I)} (h : zW_nearestTwo_l9_b  x2 x3 x4 I = some q) (r : iq_R × iq_M) (hc : ∀ v, q = .inl v → iq_Gg 2 114 (9, [some (.ref 72), some (.ref 16), some (.int v.1), some (.int v.2.1), some (.int v.2.2.1), none, none], [], (iq_sh l, v.2.2.2, J, X)) r) (hx : ∀ w, q = .inr w → iq_Gg 2 114 (74, [none, none, some (.int w.1), none, none, none, none], [], (iq_sh l, w.2, J, X)) r) : iq_Gg 2 114 (9, [some (.ref 72), some (.ref 16), some (.int x2), some (.int x3), some (.int x4), none, none], [], (iq_sh l, I, J, X)) r := by
  unfold zW_nearestTwo_l9_b at h
  refine iq_G_go (k := 3) (σ' := (15, [some (.ref 72), some (.ref 16), some (.int x2), some (.int x3), some (.int x4), none, none], [.int (I 16 0), .int x4], (iq_sh l, I, J, X))) (fun _ => rfl) ?_
  rcases iq_ite h with ⟨hc_, h⟩ | ⟨hc_, h⟩
  · refine iq_G_pos (c := (I 16 0) ≤ x4) (σ1 := (74, [some (.ref 72), some (.ref 16), some (.int x2), some (.int x3), some (.int x4), none, none], [], (iq_sh l, I, J, X))) (fun _ => rfl) hc_ ?_
    cases h
    exact iq_G_fg (L := [none, none, some (.int x2), none, none, none, none]) (And.intro rfl trivial) (hx (x2, I) rfl)
  · refine iq_G_neg (c := (I 16 0) ≤ x4) (σ1 := (18, [some (.ref 72), some (.ref 16), some (.int x2), some (.int x3), some (.int x4), none, none], [], (iq_sh l, I, J, X))) (fun _ => rfl) hc_ ?_
    refine iq_G_go (k := 4) (σ' := (24, [some (.ref 72), some (.ref 16), some (.int x2), some (.int x3), some (.int x4), some (.int (x4 + (1 : Int32))), none], [], (iq_sh l, I, J, X))) (fun _ => rfl) ?_
    obtain ⟨w2, hw2, h⟩ := iq_bnd h
    refine iq_G_fg (L := [some (.ref 72), some (.ref 16), some (.int x2), some (.int x3), some (.int x4), some (.int (x4 + (1 : Int32))), none]) (And.intro rfl (And.intro rfl (And.intro rfl (And.intro rfl (And.intro rfl (And.intro rfl trivial)))))) ?_
    refine zW_nearestTwo_l24_ok l x4 J X hw2 _ ?_
    show iq_Gg 2 114 (68, [some (.ref 72), some (.ref 16), some (.int w2.1), some (.int w2.2.1), some (.int x4), none, none], [], (iq_sh l, w2.2.2, J, X)) _
    refine iq_G_go (k := 2) (σ' := (9, [some (.ref 72), some (.ref 16), some (.int w2.1), some (.int w2.2.1), some (.int (x4 + (1 : Int32))), none, none], [], (iq_sh l, w2.2.2, J, X))) (fun _ => rfl) ?_
    cases h
    exact iq_G_fg (L := [some (.ref 72), some (.ref 16), some (.int w2.1), some (.int w2.2.1), some (.int (x4 + (1 : Int32))), none, none]) (And.intro rfl (And.intro rfl (And.intro rfl (And.intro rfl (And.intro rfl trivial))))) (hc (w2.1, w2.2.1, (x4 + (1 : Int32)), w2.2.2) rfl)
set_option maxRecDepth 100000 in
theorem zW_nearestTwo_l9_ok (l : Nat)   (J : iq_J) (X : iq_X) {n : Nat} {v : Int32 × Int32 × Int32 × iq_I} {w : Int32 × iq_I} (h : zW_nearestTwo_l9  n v = some w) (r : iq_R × iq_M) (hq : iq_Gg 2 114 (74, [none, none, some (.int w.1), none, none, none, none], [], (iq_sh l, w.2, J, X)) r) : iq_Gg 2 114 (9, [some (.ref 72), some (.ref 16), some (.int v.1), some (.int v.2.1), some (.int v.2.2.1), none, none], [], (iq_sh l, v.2.2.2, J, X)) r :=
  iq_lp_ok (σ := fun v => (9, [some (.ref 72), some (.ref 16), some (.int v.1), some (.int v.2.1), some (.int v.2.2.1), none, none], [], (iq_sh l, v.2.2.2, J, X))) (Q := fun w r => iq_Gg 2 114 (74, [none, none, some (.int w.1), none, none, none, none], [], (iq_sh l, w.2, J, X)) r) (fun v q hv r h1 h2 => zW_nearestTwo_l9_bok l J X v.1 v.2.1 v.2.2.1 v.2.2.2 hv r h1 h2) h r hq
set_option maxRecDepth 100000 in
theorem zW_nearestTwo_ok (l : Nat)   (I : iq_I) (J : iq_J) (X : iq_X) {q : Int32 × iq_I} (h : zW_nearestTwo I = some q) : iq_Cc 3 114 [.ref 72, .ref 16] (iq_sh l, I, J, X) (.inl (some (.int q.1)), (iq_sh l, q.2, J, X)) := by
  refine iq_Cc_of (L := [some (.ref 72), some (.ref 16), none, none, none, none, none]) rfl rfl ?_
  unfold zW_nearestTwo at h
  refine iq_G_go (k := 6) (σ' := (9, [some (.ref 72), some (.ref 16), some (.int (-1 : Int32)), some (.int (1000 : Int32)), some (.int (0 : Int32)), none, none], [], (iq_sh l, I, J, X))) (fun _ => rfl) ?_
  obtain ⟨w3, hw3, h⟩ := iq_bnd h
  refine iq_G_fg (L := [some (.ref 72), some (.ref 16), some (.int (-1 : Int32)), some (.int (1000 : Int32)), some (.int (0 : Int32)), none, none]) (And.intro rfl (And.intro rfl (And.intro rfl (And.intro rfl (And.intro rfl trivial))))) ?_
  refine zW_nearestTwo_l9_ok l J X hw3 _ ?_
  show iq_Gg 2 114 (74, [none, none, some (.int w3.1), none, none, none, none], [], (iq_sh l, w3.2, J, X)) _
  refine iq_G_go (k := 1) (σ' := (75, [none, none, some (.int w3.1), none, none, none, none], [.int w3.1], (iq_sh l, w3.2, J, X))) (fun _ => rfl) ?_
  cases h
  exact iq_G_ret (fun _ => rfl)
set_option maxRecDepth 100000 in
theorem zO_nearest_ok (l : Nat)   (I : iq_I) (J : iq_J) (X : iq_X) {q : Int32 × iq_I} (h : zO_nearest I = some q) : iq_Cc 4 176 [.ref 1] (iq_sh l, I, J, X) (.inl (some (.int q.1)), (iq_sh l, q.2, J, X)) := by
  refine iq_Cc_of (L := [some (.ref 1)]) rfl rfl ?_
  unfold zO_nearest at h
  refine iq_G_go (k := 4) (σ' := (8, [some (.ref 1)], [.ref 16, .ref 72], (iq_sh l, I, J, X))) (fun _ => rfl) ?_
  obtain ⟨q1, hq1, h⟩ := iq_bnd h
  refine iq_G_call (σ' := (11, [some (.ref 1)], [.int q1.1], (iq_sh l, q1.2, J, X))) (fun _ => rfl) (zW_nearestTwo_ok l  I J X hq1) rfl rfl ?_
  cases h
  exact iq_G_ret (fun _ => rfl)
set_option maxRecDepth 100000 in
theorem zM_alikeOf_l2_bok (l : Nat)  (x1 : Int32) (x2 : Int32) (J : iq_J) (X : iq_X) (x3 : Int32) (I : iq_I) {q : (Int32 × iq_I) ⊕ (iq_I)} (h : zM_alikeOf_l2_b x1 x2 x3 I = some q) (r : iq_R × iq_M) (hc : ∀ v, q = .inl v → iq_Gg 1 292 (2, [some (.ref 76), some (.int x1), some (.int x2), some (.int v.1), none, none, none], [], (iq_sh l, v.2, J, X)) r) (hx : ∀ w, q = .inr w → iq_Gg 1 292 (25, [some (.ref 76), some (.int x1), some (.int x2), none, none, none, none], [], (iq_sh l, w, J, X)) r) : iq_Gg 1 292 (2, [some (.ref 76), some (.int x1), some (.int x2), some (.int x3), none, none, none], [], (iq_sh l, I, J, X)) r := by
  unfold zM_alikeOf_l2_b at h
  refine iq_G_go (k := 4) (σ' := (8, [some (.ref 76), some (.int x1), some (.int x2), some (.int x3), none, none, none], [.int x2, .ref 98, .int x3], (iq_sh l, I, J, X))) (fun _ => rfl) ?_
  obtain ⟨hc_, h⟩ := iq_itn h
  refine iq_G_pos (c := iq_in x2 206) (σ1 := (9, [some (.ref 76), some (.int x1), some (.int x2), some (.int x3), none, none, none], [.int (I 98 (Int32.toNatClampNeg x2)), .int x3], (iq_sh l, I, J, X))) (fun _ => rfl) hc_ ?_
  rcases iq_ite h with ⟨hc_, h⟩ | ⟨hc_, h⟩
  · refine iq_G_pos (c := (I 98 (Int32.toNatClampNeg x2)) < x3) (σ1 := (25, [some (.ref 76), some (.int x1), some (.int x2), some (.int x3), none, none, none], [], (iq_sh l, I, J, X))) (fun _ => rfl) hc_ ?_
    cases h
    exact iq_G_fg (L := [some (.ref 76), some (.int x1), some (.int x2), none, none, none, none]) (And.intro rfl (And.intro rfl (And.intro rfl trivial))) (hx I rfl)
  · refine iq_G_neg (c := (I 98 (Int32.toNatClampNeg x2)) < x3) (σ1 := (12, [some (.ref 76), some (.int x1), some (.int x2), some (.int x3), none, none, none], [], (iq_sh l, I, J, X))) (fun _ => rfl) hc_ ?_
    refine iq_G_go (k := 4) (σ' := (18, [some (.ref 76), some (.int x1), some (.int x2), some (.int x3), none, none, none], [.int x3, .int x3, .ref 109], (iq_sh l, I, J, X))) (fun _ => rfl) ?_
    obtain ⟨hc_, h⟩ := iq_itn h
    refine iq_G_pos (c := iq_in x3 41) (σ1 := (19, [some (.ref 76), some (.int x1), some (.int x2), some (.int x3), none, none, none], [], (iq_sh l, (iq_upI I 109 (Int32.toNatClampNeg x3) x3), J, X))) (fun _ => rfl) hc_ ?_
    obtain ⟨I1, eI1, h⟩ := ir_letG h
    rw [← eI1]
    clear eI1
    refine iq_G_go (k := 2) (σ' := (2, [some (.ref 76), some (.int x1), some (.int x2), some (.int (x3 + (1 : Int32))), none, none, none], [], (iq_sh l, I1, J, X))) (fun _ => rfl) ?_
    cases h
    exact iq_G_fg (L := [some (.ref 76), some (.int x1), some (.int x2), some (.int (x3 + (1 : Int32))), none, none, none]) (And.intro rfl (And.intro rfl (And.intro rfl (And.intro rfl trivial)))) (hc ((x3 + (1 : Int32)), I1) rfl)
set_option maxRecDepth 100000 in
theorem zM_alikeOf_l2_ok (l : Nat)  (x1 : Int32) (x2 : Int32) (J : iq_J) (X : iq_X) {n : Nat} {v : Int32 × iq_I} {w : iq_I} (h : zM_alikeOf_l2 x1 x2 n v = some w) (r : iq_R × iq_M) (hq : iq_Gg 1 292 (25, [some (.ref 76), some (.int x1), some (.int x2), none, none, none, none], [], (iq_sh l, w, J, X)) r) : iq_Gg 1 292 (2, [some (.ref 76), some (.int x1), some (.int x2), some (.int v.1), none, none, none], [], (iq_sh l, v.2, J, X)) r :=
  iq_lp_ok (σ := fun v => (2, [some (.ref 76), some (.int x1), some (.int x2), some (.int v.1), none, none, none], [], (iq_sh l, v.2, J, X))) (Q := fun w r => iq_Gg 1 292 (25, [some (.ref 76), some (.int x1), some (.int x2), none, none, none, none], [], (iq_sh l, w, J, X)) r) (fun v q hv r h1 h2 => zM_alikeOf_l2_bok l x1 x2 J X v.1 v.2 hv r h1 h2) h r hq
set_option maxRecDepth 100000 in
theorem zM_alikeOf_181_ok (l : Nat)  (x1 : Int32) (x2 : Int32) (x3 : Int32) (x4 : Int32) (x5 : Int32) (s1 : Int32) (s2 : Int32) (I : iq_I) (J : iq_J) (X : iq_X)  {q : (Int32 × Int32 × iq_I) ⊕ (iq_I)} (h : zM_alikeOf_181 x1 x2 x3 x4 x5 s1 s2 I = some q) (r : iq_R × iq_M) (hc : ∀ v, q = .inl v → iq_Gg 1 292 (55, [some (.ref 76), some (.int x1), some (.int x2), some (.int x3), some (.int v.1), some (.int v.2.1), none], [], (iq_sh l, v.2.2, J, X)) r) (hx : ∀ w, q = .inr w → iq_Gg 1 292 (188, [some (.ref 76), some (.int x1), some (.int x2), some (.int x3), none, none, none], [], (iq_sh l, w, J, X)) r) : iq_Gg 1 292 (181, [some (.ref 76), some (.int x1), some (.int x2), some (.int x3), some (.int x4), some (.int x5), none], [.int s2, .int s1, .ref 109], (iq_sh l, I, J, X)) r := by
  unfold zM_alikeOf_181 at h
  obtain ⟨hc_, h⟩ := iq_itn h
  refine iq_G_pos (c := iq_in s1 41) (σ1 := (182, [some (.ref 76), some (.int x1), some (.int x2), some (.int x3), some (.int x4), some (.int x5), none], [], (iq_sh l, (iq_upI I 109 (Int32.toNatClampNeg s1) s2), J, X))) (fun _ => rfl) hc_ ?_
  obtain ⟨I6, eI6, h⟩ := ir_letG h
  rw [← eI6]
  clear eI6
  refine iq_G_go (k := 2) (σ' := (55, [some (.ref 76), some (.int x1), some (.int x2), some (.int x3), some (.int x4), some (.int (x5 + (1 : Int32))), none], [], (iq_sh l, I6, J, X))) (fun _ => rfl) ?_
  cases h
  exact iq_G_fg (L := [some (.ref 76), some (.int x1), some (.int x2), some (.int x3), some (.int x4), some (.int (x5 + (1 : Int32))), none]) (And.intro rfl (And.intro rfl (And.intro rfl (And.intro rfl (And.intro rfl (And.intro rfl trivial)))))) (hc (x4, (x5 + (1 : Int32)), I6) rfl)
set_option maxRecDepth 100000 in
theorem zM_alikeOf_141_ok (l : Nat)  (x1 : Int32) (x2 : Int32) (x3 : Int32) (x4 : Int32) (x5 : Int32) (s0 : Int32) (I : iq_I) (J : iq_J) (X : iq_X)  {q : (Int32 × Int32 × iq_I) ⊕ (iq_I)} (h : zM_alikeOf_141 x1 x2 x3 x4 x5 s0 I = some q) (r : iq_R × iq_M) (hc : ∀ v, q = .inl v → iq_Gg 1 292 (55, [some (.ref 76), some (.int x1), some (.int x2), some (.int x3), some (.int v.1), some (.int v.2.1), none], [], (iq_sh l, v.2.2, J, X)) r) (hx : ∀ w, q = .inr w → iq_Gg 1 292 (188, [some (.ref 76), some (.int x1), some (.int x2), some (.int x3), none, none, none], [], (iq_sh l, w, J, X)) r) : iq_Gg 1 292 (141, [some (.ref 76), some (.int x1), some (.int x2), some (.int x3), some (.int x4), some (.int x5), none], [.int s0], (iq_sh l, I, J, X)) r := by
  unfold zM_alikeOf_141 at h
  refine iq_G_go (k := 9) (σ' := (157, [some (.ref 76), some (.int x1), some (.int x2), some (.int x3), some (.int x4), some (.int x5), some (.int s0)], [.int (x5 - (1 : Int32)), .ref 109, .int x5, .ref 109], (iq_sh l, I, J, X))) (fun _ => rfl) ?_
  obtain ⟨hc_, h⟩ := iq_itn h
  have st_ : ∀ (z_0 : Int32) (r_ : iq_R × iq_M), iq_in z_0 41 → iq_Gg 1 292 (158, [some (.ref 76), some (.int x1), some (.int x2), some (.int x3), some (.int x4), some (.int x5), some (.int s0)], [.int (I 109 (Int32.toNatClampNeg z_0)), .int x5, .ref 109], (iq_sh l, I, J, X)) r_ → iq_Gg 1 292 (157, [some (.ref 76), some (.int x1), some (.int x2), some (.int x3), some (.int x4), some (.int x5), some (.int s0)], [.int z_0, .ref 109, .int x5, .ref 109], (iq_sh l, I, J, X)) r_ := fun z_0 r_ hc_ hg_ => iq_G_pos (c := iq_in z_0 41) (σ1 := (158, [some (.ref 76), some (.int x1), some (.int x2), some (.int x3), some (.int x4), some (.int x5), some (.int s0)], [.int (I 109 (Int32.toNatClampNeg z_0)), .int x5, .ref 109], (iq_sh l, I, J, X))) (fun _ => rfl) hc_ hg_
  refine st_ (x5 - (1 : Int32)) _ hc_ ?_
  clear st_
  refine iq_G_go (k := 3) (σ' := (162, [some (.ref 76), some (.int x1), some (.int x2), some (.int x3), some (.int x4), some (.int x5), some (.int s0)], [.int s0, .int ((I 109 (Int32.toNatClampNeg (x5 - (1 : Int32)))) + (1 : Int32)), .int x5, .ref 109], (iq_sh l, I, J, X))) (fun _ => rfl) ?_
  rcases iq_ite h with ⟨hc_, h⟩ | ⟨hc_, h⟩
  · have st_ : ∀ (z_0 : Int32) (r_ : iq_R × iq_M), s0 ≤ z_0 → iq_Gg 1 292 (179, [some (.ref 76), some (.int x1), some (.int x2), some (.int x3), some (.int x4), some (.int x5), some (.int s0)], [.int x5, .ref 109], (iq_sh l, I, J, X)) r_ → iq_Gg 1 292 (162, [some (.ref 76), some (.int x1), some (.int x2), some (.int x3), some (.int x4), some (.int x5), some (.int s0)], [.int s0, .int z_0, .int x5, .ref 109], (iq_sh l, I, J, X)) r_ := fun z_0 r_ hc_ hg_ => iq_G_pos (c := s0 ≤ z_0) (σ1 := (179, [some (.ref 76), some (.int x1), some (.int x2), some (.int x3), some (.int x4), some (.int x5), some (.int s0)], [.int x5, .ref 109], (iq_sh l, I, J, X))) (fun _ => rfl) hc_ hg_
    refine st_ ((I 109 (Int32.toNatClampNeg (x5 - (1 : Int32)))) + (1 : Int32)) _ hc_ ?_
    clear st_
    refine iq_G_go (k := 1) (σ' := (181, [some (.ref 76), some (.int x1), some (.int x2), some (.int x3), some (.int x4), some (.int x5), some (.int s0)], [.int s0, .int x5, .ref 109], (iq_sh l, I, J, X))) (fun _ => rfl) ?_
    exact iq_G_fg (L := [some (.ref 76), some (.int x1), some (.int x2), some (.int x3), some (.int x4), some (.int x5), none]) (And.intro rfl (And.intro rfl (And.intro rfl (And.intro rfl (And.intro rfl (And.intro rfl trivial)))))) (zM_alikeOf_181_ok l x1 x2 x3 x4 x5 x5 s0 I J X  h r hc hx)
  · have st_ : ∀ (z_0 : Int32) (r_ : iq_R × iq_M), ¬ (s0 ≤ z_0) → iq_Gg 1 292 (165, [some (.ref 76), some (.int x1), some (.int x2), some (.int x3), some (.int x4), some (.int x5), some (.int s0)], [.int x5, .ref 109], (iq_sh l, I, J, X)) r_ → iq_Gg 1 292 (162, [some (.ref 76), some (.int x1), some (.int x2), some (.int x3), some (.int x4), some (.int x5), some (.int s0)], [.int s0, .int z_0, .int x5, .ref 109], (iq_sh l, I, J, X)) r_ := fun z_0 r_ hc_ hg_ => iq_G_neg (c := s0 ≤ z_0) (σ1 := (165, [some (.ref 76), some (.int x1), some (.int x2), some (.int x3), some (.int x4), some (.int x5), some (.int s0)], [.int x5, .ref 109], (iq_sh l, I, J, X))) (fun _ => rfl) hc_ hg_
    refine st_ ((I 109 (Int32.toNatClampNeg (x5 - (1 : Int32)))) + (1 : Int32)) _ hc_ ?_
    clear st_
    refine iq_G_go (k := 5) (σ' := (173, [some (.ref 76), some (.int x1), some (.int x2), some (.int x3), some (.int x4), some (.int x5), some (.int s0)], [.int (x5 - (1 : Int32)), .ref 109, .int x5, .ref 109], (iq_sh l, I, J, X))) (fun _ => rfl) ?_
    obtain ⟨hc_, h⟩ := iq_itn h
    have st_ : ∀ (z_0 : Int32) (r_ : iq_R × iq_M), iq_in z_0 41 → iq_Gg 1 292 (174, [some (.ref 76), some (.int x1), some (.int x2), some (.int x3), some (.int x4), some (.int x5), some (.int s0)], [.int (I 109 (Int32.toNatClampNeg z_0)), .int x5, .ref 109], (iq_sh l, I, J, X)) r_ → iq_Gg 1 292 (173, [some (.ref 76), some (.int x1), some (.int x2), some (.int x3), some (.int x4), some (.int x5), some (.int s0)], [.int z_0, .ref 109, .int x5, .ref 109], (iq_sh l, I, J, X)) r_ := fun z_0 r_ hc_ hg_ => iq_G_pos (c := iq_in z_0 41) (σ1 := (174, [some (.ref 76), some (.int x1), some (.int x2), some (.int x3), some (.int x4), some (.int x5), some (.int s0)], [.int (I 109 (Int32.toNatClampNeg z_0)), .int x5, .ref 109], (iq_sh l, I, J, X))) (fun _ => rfl) hc_ hg_
    refine st_ (x5 - (1 : Int32)) _ hc_ ?_
    clear st_
    refine iq_G_go (k := 3) (σ' := (181, [some (.ref 76), some (.int x1), some (.int x2), some (.int x3), some (.int x4), some (.int x5), some (.int s0)], [.int ((I 109 (Int32.toNatClampNeg (x5 - (1 : Int32)))) + (1 : Int32)), .int x5, .ref 109], (iq_sh l, I, J, X))) (fun _ => rfl) ?_
    exact iq_G_fg (L := [some (.ref 76), some (.int x1), some (.int x2), some (.int x3), some (.int x4), some (.int x5), none]) (And.intro rfl (And.intro rfl (And.intro rfl (And.intro rfl (And.intro rfl (And.intro rfl trivial)))))) (zM_alikeOf_181_ok l x1 x2 x3 x4 x5 x5 ((I 109 (Int32.toNatClampNeg (x5 - (1 : Int32)))) + (1 : Int32)) I J X  h r hc hx)
set_option maxRecDepth 100000 in
theorem zM_alikeOf_101_ok (l : Nat)  (x1 : Int32) (x2 : Int32) (x3 : Int32) (x5 : Int32) (s0 : Int32) (s1 : Int32) (I : iq_I) (J : iq_J) (X : iq_X)  {q : (Int32 × Int32 × iq_I) ⊕ (iq_I)} (h : zM_alikeOf_101 x1 x2 x3 x5 s0 s1 I = some q) (r : iq_R × iq_M) (hc : ∀ v, q = .inl v → iq_Gg 1 292 (55, [some (.ref 76), some (.int x1), some (.int x2), some (.int x3), some (.int v.1), some (.int v.2.1), none], [], (iq_sh l, v.2.2, J, X)) r) (hx : ∀ w, q = .inr w → iq_Gg 1 292 (188, [some (.ref 76), some (.int x1), some (.int x2), some (.int x3), none, none, none], [], (iq_sh l, w, J, X)) r) : iq_Gg 1 292 (101, [some (.ref 76), some (.int x1), some (.int x2), some (.int x3), none, some (.int x5), none], [.int s1, .int s0], (iq_sh l, I, J, X)) r := by
  unfold zM_alikeOf_101 at h
  refine iq_G_go (k := 5) (σ' := (110, [some (.ref 76), some (.int x1), some (.int x2), some (.int x3), none, some (.int x5), some (.int (s0 + s1))], [.int x5, .ref 109], (iq_sh l, I, J, X))) (fun _ => rfl) ?_
  obtain ⟨hc_, h⟩ := iq_itn h
  refine iq_G_pos (c := iq_in x5 41) (σ1 := (111, [some (.ref 76), some (.int x1), some (.int x2), some (.int x3), none, some (.int x5), some (.int (s0 + s1))], [.int (I 109 (Int32.toNatClampNeg x5))], (iq_sh l, I, J, X))) (fun _ => rfl) hc_ ?_
  refine iq_G_go (k := 4) (σ' := (119, [some (.ref 76), some (.int x1), some (.int x2), some (.int x3), some (.int (I 109 (Int32.toNatClampNeg x5))), some (.int x5), some (.int (s0 + s1))], [.int x5, .ref 109], (iq_sh l, I, J, X))) (fun _ => rfl) ?_
  obtain ⟨hc_, h⟩ := iq_itn h
  refine iq_G_pos (c := iq_in x5 41) (σ1 := (120, [some (.ref 76), some (.int x1), some (.int x2), some (.int x3), some (.int (I 109 (Int32.toNatClampNeg x5))), some (.int x5), some (.int (s0 + s1))], [.int (I 109 (Int32.toNatClampNeg x5))], (iq_sh l, I, J, X))) (fun _ => rfl) hc_ ?_
  refine iq_G_go (k := 3) (σ' := (124, [some (.ref 76), some (.int x1), some (.int x2), some (.int x3), some (.int (I 109 (Int32.toNatClampNeg x5))), some (.int x5), some (.int (s0 + s1))], [.int (s0 + s1), .int ((I 109 (Int32.toNatClampNeg x5)) + (1 : Int32))], (iq_sh l, I, J, X))) (fun _ => rfl) ?_
  rcases iq_ite h with ⟨hc_, h⟩ | ⟨hc_, h⟩
  · refine iq_G_pos (c := (s0 + s1) ≤ ((I 109 (Int32.toNatClampNeg x5)) + (1 : Int32))) (σ1 := (139, [some (.ref 76), some (.int x1), some (.int x2), some (.int x3), some (.int (I 109 (Int32.toNatClampNeg x5))), some (.int x5), some (.int (s0 + s1))], [], (iq_sh l, I, J, X))) (fun _ => rfl) hc_ ?_
    refine iq_G_go (k := 1) (σ' := (141, [some (.ref 76), some (.int x1), some (.int x2), some (.int x3), some (.int (I 109 (Int32.toNatClampNeg x5))), some (.int x5), some (.int (s0 + s1))], [.int (s0 + s1)], (iq_sh l, I, J, X))) (fun _ => rfl) ?_
    exact iq_G_fg (L := [some (.ref 76), some (.int x1), some (.int x2), some (.int x3), some (.int (I 109 (Int32.toNatClampNeg x5))), some (.int x5), none]) (And.intro rfl (And.intro rfl (And.intro rfl (And.intro rfl (And.intro rfl (And.intro rfl trivial)))))) (zM_alikeOf_141_ok l x1 x2 x3 (I 109 (Int32.toNatClampNeg x5)) x5 (s0 + s1) I J X  h r hc hx)
  · refine iq_G_neg (c := (s0 + s1) ≤ ((I 109 (Int32.toNatClampNeg x5)) + (1 : Int32))) (σ1 := (127, [some (.ref 76), some (.int x1), some (.int x2), some (.int x3), some (.int (I 109 (Int32.toNatClampNeg x5))), some (.int x5), some (.int (s0 + s1))], [], (iq_sh l, I, J, X))) (fun _ => rfl) hc_ ?_
    refine iq_G_go (k := 3) (σ' := (133, [some (.ref 76), some (.int x1), some (.int x2), some (.int x3), some (.int (I 109 (Int32.toNatClampNeg x5))), some (.int x5), some (.int (s0 + s1))], [.int x5, .ref 109], (iq_sh l, I, J, X))) (fun _ => rfl) ?_
    obtain ⟨hc_, h⟩ := iq_itn h
    refine iq_G_pos (c := iq_in x5 41) (σ1 := (134, [some (.ref 76), some (.int x1), some (.int x2), some (.int x3), some (.int (I 109 (Int32.toNatClampNeg x5))), some (.int x5), some (.int (s0 + s1))], [.int (I 109 (Int32.toNatClampNeg x5))], (iq_sh l, I, J, X))) (fun _ => rfl) hc_ ?_
    refine iq_G_go (k := 3) (σ' := (141, [some (.ref 76), some (.int x1), some (.int x2), some (.int x3), some (.int (I 109 (Int32.toNatClampNeg x5))), some (.int x5), some (.int (s0 + s1))], [.int ((I 109 (Int32.toNatClampNeg x5)) + (1 : Int32))], (iq_sh l, I, J, X))) (fun _ => rfl) ?_
    exact iq_G_fg (L := [some (.ref 76), some (.int x1), some (.int x2), some (.int x3), some (.int (I 109 (Int32.toNatClampNeg x5))), some (.int x5), none]) (And.intro rfl (And.intro rfl (And.intro rfl (And.intro rfl (And.intro rfl (And.intro rfl trivial)))))) (zM_alikeOf_141_ok l x1 x2 x3 (I 109 (Int32.toNatClampNeg x5)) x5 ((I 109 (Int32.toNatClampNeg x5)) + (1 : Int32)) I J X  h r hc hx)
set_option maxRecDepth 100000 in
theorem zM_alikeOf_l55_bok (l : Nat)  (x1 : Int32) (x2 : Int32) (x3 : Int32) (J : iq_J) (X : iq_X) (x4 : Int32) (x5 : Int32) (I : iq_I) {q : (Int32 × Int32 × iq_I) ⊕ (iq_I)} (h : zM_alikeOf_l55_b x1 x2 x3 x4 x5 I = some q) (r : iq_R × iq_M) (hc : ∀ v, q = .inl v → iq_Gg 1 292 (55, [some (.ref 76), some (.int x1), some (.int x2), some (.int x3), some (.int v.1), some (.int v.2.1), none], [], (iq_sh l, v.2.2, J, X)) r) (hx : ∀ w, q = .inr w → iq_Gg 1 292 (188, [some (.ref 76), some (.int x1), some (.int x2), some (.int x3), none, none, none], [], (iq_sh l, w, J, X)) r) : iq_Gg 1 292 (55, [some (.ref 76), some (.int x1), some (.int x2), some (.int x3), some (.int x4), some (.int x5), none], [], (iq_sh l, I, J, X)) r := by
  unfold zM_alikeOf_l55_b at h
  refine iq_G_go (k := 4) (σ' := (62, [some (.ref 76), some (.int x1), some (.int x2), some (.int x3), some (.int x4), some (.int x5), none], [.int x2, .ref 98, .int x5], (iq_sh l, I, J, X))) (fun _ => rfl) ?_
  obtain ⟨hc_, h⟩ := iq_itn h
  refine iq_G_pos (c := iq_in x2 206) (σ1 := (63, [some (.ref 76), some (.int x1), some (.int x2), some (.int x3), some (.int x4), some (.int x5), none], [.int (I 98 (Int32.toNatClampNeg x2)), .int x5], (iq_sh l, I, J, X))) (fun _ => rfl) hc_ ?_
  rcases iq_ite h with ⟨hc_, h⟩ | ⟨hc_, h⟩
  · refine iq_G_pos (c := (I 98 (Int32.toNatClampNeg x2)) < x5) (σ1 := (188, [some (.ref 76), some (.int x1), some (.int x2), some (.int x3), some (.int x4), some (.int x5), none], [], (iq_sh l, I, J, X))) (fun _ => rfl) hc_ ?_
    cases h
    exact iq_G_fg (L := [some (.ref 76), some (.int x1), some (.int x2), some (.int x3), none, none, none]) (And.intro rfl (And.intro rfl (And.intro rfl (And.intro rfl trivial)))) (hx I rfl)
  · refine iq_G_neg (c := (I 98 (Int32.toNatClampNeg x2)) < x5) (σ1 := (66, [some (.ref 76), some (.int x1), some (.int x2), some (.int x3), some (.int x4), some (.int x5), none], [], (iq_sh l, I, J, X))) (fun _ => rfl) hc_ ?_
    refine iq_G_go (k := 8) (σ' := (77, [some (.ref 76), some (.int x1), some (.int x2), some (.int x3), some (.int x4), some (.int x5), none], [.int (x3 - (1 : Int32)), .int x1, .ref 98, .ref 76, .int x4], (iq_sh l, I, J, X))) (fun _ => rfl) ?_
    obtain ⟨q4, hq4, h⟩ := iq_bnd h
    refine iq_G_call (σ' := (80, [some (.ref 76), some (.int x1), some (.int x2), some (.int x3), some (.int x4), some (.int x5), none], [.int q4, .int x4], (iq_sh l, I, J, X))) (fun _ => rfl) (zM_wordAt_76_98_ok l x1 (x3 - (1 : Int32)) I J X hq4) rfl rfl ?_
    refine iq_G_go (k := 7) (σ' := (90, [some (.ref 76), some (.int x1), some (.int x2), some (.int x3), some (.int x4), some (.int x5), none], [.int (x5 - (1 : Int32)), .int x2, .ref 98, .ref 76, .int q4, .int x4], (iq_sh l, I, J, X))) (fun _ => rfl) ?_
    obtain ⟨q5, hq5, h⟩ := iq_bnd h
    refine iq_G_call (σ' := (93, [some (.ref 76), some (.int x1), some (.int x2), some (.int x3), some (.int x4), some (.int x5), none], [.int q5, .int q4, .int x4], (iq_sh l, I, J, X))) (fun _ => rfl) (zM_wordAt_76_98_ok l x2 (x5 - (1 : Int32)) I J X hq5) rfl rfl ?_
    rcases iq_ite h with ⟨hc_, h⟩ | ⟨hc_, h⟩
    · refine iq_G_pos (c := ¬ q4 = q5) (σ1 := (100, [some (.ref 76), some (.int x1), some (.int x2), some (.int x3), some (.int x4), some (.int x5), none], [.int x4], (iq_sh l, I, J, X))) (fun _ => rfl) hc_ ?_
      refine iq_G_go (k := 1) (σ' := (101, [some (.ref 76), some (.int x1), some (.int x2), some (.int x3), some (.int x4), some (.int x5), none], [.int (1 : Int32), .int x4], (iq_sh l, I, J, X))) (fun _ => rfl) ?_
      exact iq_G_fg (L := [some (.ref 76), some (.int x1), some (.int x2), some (.int x3), none, some (.int x5), none]) (And.intro rfl (And.intro rfl (And.intro rfl (And.intro rfl (And.intro rfl trivial))))) (zM_alikeOf_101_ok l x1 x2 x3 x5 x4 (1 : Int32) I J X  h r hc hx)
    · refine iq_G_neg (c := ¬ q4 = q5) (σ1 := (96, [some (.ref 76), some (.int x1), some (.int x2), some (.int x3), some (.int x4), some (.int x5), none], [.int x4], (iq_sh l, I, J, X))) (fun _ => rfl) hc_ ?_
      refine iq_G_go (k := 2) (σ' := (101, [some (.ref 76), some (.int x1), some (.int x2), some (.int x3), some (.int x4), some (.int x5), none], [.int (0 : Int32), .int x4], (iq_sh l, I, J, X))) (fun _ => rfl) ?_
      exact iq_G_fg (L := [some (.ref 76), some (.int x1), some (.int x2), some (.int x3), none, some (.int x5), none]) (And.intro rfl (And.intro rfl (And.intro rfl (And.intro rfl (And.intro rfl trivial))))) (zM_alikeOf_101_ok l x1 x2 x3 x5 x4 (0 : Int32) I J X  h r hc hx)
set_option maxRecDepth 100000 in
theorem zM_alikeOf_l55_ok (l : Nat)  (x1 : Int32) (x2 : Int32) (x3 : Int32) (J : iq_J) (X : iq_X) {n : Nat} {v : Int32 × Int32 × iq_I} {w : iq_I} (h : zM_alikeOf_l55 x1 x2 x3 n v = some w) (r : iq_R × iq_M) (hq : iq_Gg 1 292 (188, [some (.ref 76), some (.int x1), some (.int x2), some (.int x3), none, none, none], [], (iq_sh l, w, J, X)) r) : iq_Gg 1 292 (55, [some (.ref 76), some (.int x1), some (.int x2), some (.int x3), some (.int v.1), some (.int v.2.1), none], [], (iq_sh l, v.2.2, J, X)) r :=
  iq_lp_ok (σ := fun v => (55, [some (.ref 76), some (.int x1), some (.int x2), some (.int x3), some (.int v.1), some (.int v.2.1), none], [], (iq_sh l, v.2.2, J, X))) (Q := fun w r => iq_Gg 1 292 (188, [some (.ref 76), some (.int x1), some (.int x2), some (.int x3), none, none, none], [], (iq_sh l, w, J, X)) r) (fun v q hv r h1 h2 => zM_alikeOf_l55_bok l x1 x2 x3 J X v.1 v.2.1 v.2.2 hv r h1 h2) h r hq
set_option maxRecDepth 100000 in
theorem zM_alikeOf_l27_bok (l : Nat)  (x1 : Int32) (x2 : Int32) (J : iq_J) (X : iq_X) (x3 : Int32) (I : iq_I) {q : (Int32 × iq_I) ⊕ (iq_I)} (h : zM_alikeOf_l27_b x1 x2 x3 I = some q) (r : iq_R × iq_M) (hc : ∀ v, q = .inl v → iq_Gg 1 292 (27, [some (.ref 76), some (.int x1), some (.int x2), some (.int v.1), none, none, none], [], (iq_sh l, v.2, J, X)) r) (hx : ∀ w, q = .inr w → iq_Gg 1 292 (194, [some (.ref 76), none, some (.int x2), none, none, none, none], [], (iq_sh l, w, J, X)) r) : iq_Gg 1 292 (27, [some (.ref 76), some (.int x1), some (.int x2), some (.int x3), none, none, none], [], (iq_sh l, I, J, X)) r := by
  unfold zM_alikeOf_l27_b at h
  refine iq_G_go (k := 4) (σ' := (33, [some (.ref 76), some (.int x1), some (.int x2), some (.int x3), none, none, none], [.int x1, .ref 98, .int x3], (iq_sh l, I, J, X))) (fun _ => rfl) ?_
  obtain ⟨hc_, h⟩ := iq_itn h
  refine iq_G_pos (c := iq_in x1 206) (σ1 := (34, [some (.ref 76), some (.int x1), some (.int x2), some (.int x3), none, none, none], [.int (I 98 (Int32.toNatClampNeg x1)), .int x3], (iq_sh l, I, J, X))) (fun _ => rfl) hc_ ?_
  rcases iq_ite h with ⟨hc_, h⟩ | ⟨hc_, h⟩
  · refine iq_G_pos (c := (I 98 (Int32.toNatClampNeg x1)) < x3) (σ1 := (194, [some (.ref 76), some (.int x1), some (.int x2), some (.int x3), none, none, none], [], (iq_sh l, I, J, X))) (fun _ => rfl) hc_ ?_
    cases h
    exact iq_G_fg (L := [some (.ref 76), none, some (.int x2), none, none, none, none]) (And.intro rfl (And.intro rfl trivial)) (hx I rfl)
  · refine iq_G_neg (c := (I 98 (Int32.toNatClampNeg x1)) < x3) (σ1 := (37, [some (.ref 76), some (.int x1), some (.int x2), some (.int x3), none, none, none], [], (iq_sh l, I, J, X))) (fun _ => rfl) hc_ ?_
    refine iq_G_go (k := 3) (σ' := (42, [some (.ref 76), some (.int x1), some (.int x2), some (.int x3), none, none, none], [.int (0 : Int32), .ref 109], (iq_sh l, I, J, X))) (fun _ => rfl) ?_
    refine iq_G_go (k := 1) (σ' := (43, [some (.ref 76), some (.int x1), some (.int x2), some (.int x3), none, none, none], [.int (I 109 0)], (iq_sh l, I, J, X))) (fun _ => rfl) ?_
    refine iq_G_go (k := 5) (σ' := (51, [some (.ref 76), some (.int x1), some (.int x2), some (.int x3), some (.int (I 109 0)), none, none], [.int x3, .int (0 : Int32), .ref 109], (iq_sh l, I, J, X))) (fun _ => rfl) ?_
    refine iq_G_go (k := 1) (σ' := (52, [some (.ref 76), some (.int x1), some (.int x2), some (.int x3), some (.int (I 109 0)), none, none], [], (iq_sh l, (iq_upI I 109 0 x3), J, X))) (fun _ => rfl) ?_
    obtain ⟨I3, eI3, h⟩ := ir_letG h
    rw [← eI3]
    clear eI3
    refine iq_G_go (k := 2) (σ' := (55, [some (.ref 76), some (.int x1), some (.int x2), some (.int x3), some (.int (I 109 0)), some (.int (1 : Int32)), none], [], (iq_sh l, I3, J, X))) (fun _ => rfl) ?_
    obtain ⟨w7, hw7, h⟩ := iq_bnd h
    refine iq_G_fg (L := [some (.ref 76), some (.int x1), some (.int x2), some (.int x3), some (.int (I 109 0)), some (.int (1 : Int32)), none]) (And.intro rfl (And.intro rfl (And.intro rfl (And.intro rfl (And.intro rfl (And.intro rfl trivial)))))) ?_
    refine zM_alikeOf_l55_ok l x1 x2 x3 J X hw7 _ ?_
    show iq_Gg 1 292 (188, [some (.ref 76), some (.int x1), some (.int x2), some (.int x3), none, none, none], [], (iq_sh l, w7, J, X)) _
    refine iq_G_go (k := 2) (σ' := (27, [some (.ref 76), some (.int x1), some (.int x2), some (.int (x3 + (1 : Int32))), none, none, none], [], (iq_sh l, w7, J, X))) (fun _ => rfl) ?_
    cases h
    exact iq_G_fg (L := [some (.ref 76), some (.int x1), some (.int x2), some (.int (x3 + (1 : Int32))), none, none, none]) (And.intro rfl (And.intro rfl (And.intro rfl (And.intro rfl trivial)))) (hc ((x3 + (1 : Int32)), w7) rfl)
set_option maxRecDepth 100000 in
theorem zM_alikeOf_l27_ok (l : Nat)  (x1 : Int32) (x2 : Int32) (J : iq_J) (X : iq_X) {n : Nat} {v : Int32 × iq_I} {w : iq_I} (h : zM_alikeOf_l27 x1 x2 n v = some w) (r : iq_R × iq_M) (hq : iq_Gg 1 292 (194, [some (.ref 76), none, some (.int x2), none, none, none, none], [], (iq_sh l, w, J, X)) r) : iq_Gg 1 292 (27, [some (.ref 76), some (.int x1), some (.int x2), some (.int v.1), none, none, none], [], (iq_sh l, v.2, J, X)) r :=
  iq_lp_ok (σ := fun v => (27, [some (.ref 76), some (.int x1), some (.int x2), some (.int v.1), none, none, none], [], (iq_sh l, v.2, J, X))) (Q := fun w r => iq_Gg 1 292 (194, [some (.ref 76), none, some (.int x2), none, none, none, none], [], (iq_sh l, w, J, X)) r) (fun v q hv r h1 h2 => zM_alikeOf_l27_bok l x1 x2 J X v.1 v.2 hv r h1 h2) h r hq
set_option maxRecDepth 100000 in
theorem zM_alikeOf_ok (l : Nat)  (x1 : Int32) (x2 : Int32) (I : iq_I) (J : iq_J) (X : iq_X) {q : Int32 × iq_I} (h : zM_alikeOf x1 x2 I = some q) : iq_Cc 2 292 [.ref 76, .int x1, .int x2] (iq_sh l, I, J, X) (.inl (some (.int q.1)), (iq_sh l, q.2, J, X)) := by
  refine iq_Cc_of (L := [some (.ref 76), some (.int x1), some (.int x2), none, none, none, none]) rfl rfl ?_
  unfold zM_alikeOf at h
  refine iq_G_go (k := 2) (σ' := (2, [some (.ref 76), some (.int x1), some (.int x2), some (.int (0 : Int32)), none, none, none], [], (iq_sh l, I, J, X))) (fun _ => rfl) ?_
  obtain ⟨w2, hw2, h⟩ := iq_bnd h
  refine iq_G_fg (L := [some (.ref 76), some (.int x1), some (.int x2), some (.int (0 : Int32)), none, none, none]) (And.intro rfl (And.intro rfl (And.intro rfl (And.intro rfl trivial)))) ?_
  refine zM_alikeOf_l2_ok l x1 x2 J X hw2 _ ?_
  show iq_Gg 1 292 (25, [some (.ref 76), some (.int x1), some (.int x2), none, none, none, none], [], (iq_sh l, w2, J, X)) _
  refine iq_G_go (k := 2) (σ' := (27, [some (.ref 76), some (.int x1), some (.int x2), some (.int (1 : Int32)), none, none, none], [], (iq_sh l, w2, J, X))) (fun _ => rfl) ?_
  obtain ⟨w8, hw8, h⟩ := iq_bnd h
  refine iq_G_fg (L := [some (.ref 76), some (.int x1), some (.int x2), some (.int (1 : Int32)), none, none, none]) (And.intro rfl (And.intro rfl (And.intro rfl (And.intro rfl trivial)))) ?_
  refine zM_alikeOf_l27_ok l x1 x2 J X hw8 _ ?_
  show iq_Gg 1 292 (194, [some (.ref 76), none, some (.int x2), none, none, none, none], [], (iq_sh l, w8, J, X)) _
  refine iq_G_go (k := 5) (σ' := (203, [some (.ref 76), none, some (.int x2), none, none, none, none], [.int x2, .ref 98, .ref 109], (iq_sh l, w8, J, X))) (fun _ => rfl) ?_
  obtain ⟨hc_, h⟩ := iq_itn h
  refine iq_G_pos (c := iq_in x2 206) (σ1 := (204, [some (.ref 76), none, some (.int x2), none, none, none, none], [.int (w8 98 (Int32.toNatClampNeg x2)), .ref 109], (iq_sh l, w8, J, X))) (fun _ => rfl) hc_ ?_
  obtain ⟨hc_, h⟩ := iq_itn h
  refine iq_G_pos (c := iq_in (w8 98 (Int32.toNatClampNeg x2)) 41) (σ1 := (205, [some (.ref 76), none, some (.int x2), none, none, none, none], [.int (w8 109 (Int32.toNatClampNeg (w8 98 (Int32.toNatClampNeg x2))))], (iq_sh l, w8, J, X))) (fun _ => rfl) hc_ ?_
  cases h
  exact iq_G_ret (fun _ => rfl)

