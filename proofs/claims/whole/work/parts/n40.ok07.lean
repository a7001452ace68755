/-! ===== the abstract machine does the same (printed by wip/whole/emitall.py, split.py) ===== -/
set_option maxRecDepth 100000 in
theorem zM_nearest_56_ok (l : Nat)  (x3 : Int32) (x4 : Int32) (x5 : Int32) (I : iq_I) (J : iq_J) (X : iq_X)  {q : (Int32 × Int32 × Int32 × iq_I) ⊕ (Int32 × Int32 × iq_I)} (h : zM_nearest_56 x3 x4 x5 I = some q) (r : iq_R × iq_M) (hc : ∀ v, q = .inl v → iq_Gg 2 294 (24, [some (.ref 76), some (.int v.1), some (.int v.2.1), some (.int x3), some (.int v.2.2.1), none], [], (iq_sh l, v.2.2.2, J, X)) r) (hx : ∀ w, q = .inr w → iq_Gg 2 294 (73, [some (.ref 76), some (.int w.1), some (.int w.2.1), some (.int x3), none, none], [], (iq_sh l, w.2.2, J, X)) r) : iq_Gg 2 294 (56, [some (.ref 76), none, none, some (.int x3), some (.int x4), some (.int x5)], [], (iq_sh l, I, J, X)) r := by
  unfold zM_nearest_56 at h
  refine iq_G_go (k := 10) (σ' := (24, [some (.ref 76), some (.int (((10 : Int32) * x3) + x4)), some (.int x5), some (.int x3), some (.int (x4 + (1 : Int32))), some (.int x5)], [], (iq_sh l, I, J, X))) (fun _ => rfl) ?_
  cases h
  exact iq_G_fg (L := [some (.ref 76), some (.int (((10 : Int32) * x3) + x4)), some (.int x5), some (.int x3), some (.int (x4 + (1 : Int32))), none]) (And.intro rfl (And.intro rfl (And.intro rfl (And.intro rfl (And.intro rfl trivial))))) (hc ((((10 : Int32) * x3) + x4), x5, (x4 + (1 : Int32)), I) rfl)
set_option maxRecDepth 100000 in
theorem zM_nearest_l24_bok (l : Nat)  (x3 : Int32) (J : iq_J) (X : iq_X) (x1 : Int32) (x2 : Int32) (x4 : Int32) (I : iq_I) {q : (Int32 × Int32 × Int32 × iq_I) ⊕ (Int32 × Int32 × iq_I)} (h : zM_nearest_l24_b x3 x1 x2 x4 I = some q) (r : iq_R × iq_M) (hc : ∀ v, q = .inl v → iq_Gg 2 294 (24, [some (.ref 76), some (.int v.1), some (.int v.2.1), some (.int x3), some (.int v.2.2.1), none], [], (iq_sh l, v.2.2.2, J, X)) r) (hx : ∀ w, q = .inr w → iq_Gg 2 294 (73, [some (.ref 76), some (.int w.1), some (.int w.2.1), some (.int x3), none, none], [], (iq_sh l, w.2.2, J, X)) r) : iq_Gg 2 294 (24, [some (.ref 76), some (.int x1), some (.int x2), some (.int x3), some (.int x4), none], [], (iq_sh l, I, J, X)) r := by
  unfold zM_nearest_l24_b at h
  refine iq_G_go (k := 3) (σ' := (30, [some (.ref 76), some (.int x1), some (.int x2), some (.int x3), some (.int x4), none], [.int (I 76 5), .int x4], (iq_sh l, I, J, X))) (fun _ => rfl) ?_
  rcases iq_ite h with ⟨hc_, h⟩ | ⟨hc_, h⟩
  · refine iq_G_pos (c := (I 76 5) ≤ x4) (σ1 := (73, [some (.ref 76), some (.int x1), some (.int x2), some (.int x3), some (.int x4), none], [], (iq_sh l, I, J, X))) (fun _ => rfl) hc_ ?_
    cases h
    exact iq_G_fg (L := [some (.ref 76), some (.int x1), some (.int x2), some (.int x3), none, none]) (And.intro rfl (And.intro rfl (And.intro rfl (And.intro rfl trivial)))) (hx (x1, x2, I) rfl)
  · refine iq_G_neg (c := (I 76 5) ≤ x4) (σ1 := (33, [some (.ref 76), some (.int x1), some (.int x2), some (.int x3), some (.int x4), none], [], (iq_sh l, I, J, X))) (fun _ => rfl) hc_ ?_
    refine iq_G_go (k := 3) (σ' := (37, [some (.ref 76), some (.int x1), some (.int x2), some (.int x3), some (.int x4), none], [.int x4, .int x3, .ref 76], (iq_sh l, I, J, X))) (fun _ => rfl) ?_
    obtain ⟨q2, hq2, h⟩ := iq_bnd h
    refine iq_G_call (σ' := (40, [some (.ref 76), some (.int x1), some (.int x2), some (.int x3), some (.int x4), none], [.int q2.1], (iq_sh l, q2.2, J, X))) (fun _ => rfl) (zM_alikeOf_ok l x3 x4 I J X hq2) rfl rfl ?_
    refine iq_G_go (k := 3) (σ' := (44, [some (.ref 76), some (.int x1), some (.int x2), some (.int x3), some (.int x4), some (.int q2.1)], [.int (-1 : Int32), .int x1], (iq_sh l, q2.2, J, X))) (fun _ => rfl) ?_
    rcases iq_ite h with ⟨hc_, h⟩ | ⟨hc_, h⟩
    · refine iq_G_pos (c := x1 = (-1 : Int32)) (σ1 := (56, [some (.ref 76), some (.int x1), some (.int x2), some (.int x3), some (.int x4), some (.int q2.1)], [], (iq_sh l, q2.2, J, X))) (fun _ => rfl) hc_ ?_
      exact iq_G_fg (L := [some (.ref 76), none, none, some (.int x3), some (.int x4), some (.int q2.1)]) (And.intro rfl (And.intro rfl (And.intro rfl (And.intro rfl trivial)))) (zM_nearest_56_ok l x3 x4 q2.1 q2.2 J X  h r hc hx)
    · refine iq_G_neg (c := x1 = (-1 : Int32)) (σ1 := (47, [some (.ref 76), some (.int x1), some (.int x2), some (.int x3), some (.int x4), some (.int q2.1)], [], (iq_sh l, q2.2, J, X))) (fun _ => rfl) hc_ ?_
      refine iq_G_go (k := 2) (σ' := (50, [some (.ref 76), some (.int x1), some (.int x2), some (.int x3), some (.int x4), some (.int q2.1)], [.int x2, .int q2.1], (iq_sh l, q2.2, J, X))) (fun _ => rfl) ?_
      rcases iq_ite h with ⟨hc_, h⟩ | ⟨hc_, h⟩
      · refine iq_G_pos (c := q2.1 < x2) (σ1 := (56, [some (.ref 76), some (.int x1), some (.int x2), some (.int x3), some (.int x4), some (.int q2.1)], [], (iq_sh l, q2.2, J, X))) (fun _ => rfl) hc_ ?_
        exact iq_G_fg (L := [some (.ref 76), none, none, some (.int x3), some (.int x4), some (.int q2.1)]) (And.intro rfl (And.intro rfl (And.intro rfl (And.intro rfl trivial)))) (zM_nearest_56_ok l x3 x4 q2.1 q2.2 J X  h r hc hx)
      · refine iq_G_neg (c := q2.1 < x2) (σ1 := (53, [some (.ref 76), some (.int x1), some (.int x2), some (.int x3), some (.int x4), some (.int q2.1)], [], (iq_sh l, q2.2, J, X))) (fun _ => rfl) hc_ ?_
        refine iq_G_go (k := 3) (σ' := (24, [some (.ref 76), some (.int x1), some (.int x2), some (.int x3), some (.int (x4 + (1 : Int32))), some (.int q2.1)], [], (iq_sh l, q2.2, J, X))) (fun _ => rfl) ?_
        cases h
        exact iq_G_fg (L := [some (.ref 76), some (.int x1), some (.int x2), some (.int x3), some (.int (x4 + (1 : Int32))), none]) (And.intro rfl (And.intro rfl (And.intro rfl (And.intro rfl (And.intro rfl trivial))))) (hc (x1, x2, (x4 + (1 : Int32)), q2.2) rfl)
set_option maxRecDepth 100000 in
theorem zM_nearest_l24_ok (l : Nat)  (x3 : Int32) (J : iq_J) (X : iq_X) {n : Nat} {v : Int32 × Int32 × Int32 × iq_I} {w : Int32 × Int32 × iq_I} (h : zM_nearest_l24 x3 n v = some w) (r : iq_R × iq_M) (hq : iq_Gg 2 294 (73, [some (.ref 76), some (.int w.1), some (.int w.2.1), some (.int x3), none, none], [], (iq_sh l, w.2.2, J, X)) r) : iq_Gg 2 294 (24, [some (.ref 76), some (.int v.1), some (.int v.2.1), some (.int x3), some (.int v.2.2.1), none], [], (iq_sh l, v.2.2.2, J, X)) r :=
  iq_lp_ok (σ := fun v => (24, [some (.ref 76), some (.int v.1), some (.int v.2.1), some (.int x3), some (.int v.2.2.1), none], [], (iq_sh l, v.2.2.2, J, X))) (Q := fun w r => iq_Gg 2 294 (73, [some (.ref 76), some (.int w.1), some (.int w.2.1), some (.int x3), none, none], [], (iq_sh l, w.2.2, J, X)) r) (fun v q hv r h1 h2 => zM_nearest_l24_bok l x3 J X v.1 v.2.1 v.2.2.1 v.2.2.2 hv r h1 h2) h r hq
set_option maxRecDepth 100000 in
theorem zM_nearest_l11_bok (l : Nat)   (J : iq_J) (X : iq_X) (x1 : Int32) (x2 : Int32) (x3 : Int32) (I : iq_I) {q : (Int32 × Int32 × Int32 × iq_I) ⊕ (Int32 × iq_I)} (h : zM_nearest_l11_b  x1 x2 x3 I = some q) (r : iq_R × iq_M) (hc : ∀ v, q = .inl v → iq_Gg 2 294 (11, [some (.ref 76), some (.int v.1), some (.int v.2.1), some (.int v.2.2.1), none, none], [], (iq_sh l, v.2.2.2, J, X)) r) (hx : ∀ w, q = .inr w → iq_Gg 2 294 (79, [none, some (.int w.1), none, none, none, none], [], (iq_sh l, w.2, J, X)) r) : iq_Gg 2 294 (11, [some (.ref 76), some (.int x1), some (.int x2), some (.int x3), none, none], [], (iq_sh l, I, J, X)) r := by
  unfold zM_nearest_l11_b at h
  refine iq_G_go (k := 3) (σ' := (16, [some (.ref 76), some (.int x1), some (.int x2), some (.int x3), none, none], [.int (I 76 5), .int x3], (iq_sh l, I, J, X))) (fun _ => rfl) ?_
  rcases iq_ite h with ⟨hc_, h⟩ | ⟨hc_, h⟩
  · refine iq_G_pos (c := (I 76 5) ≤ x3) (σ1 := (79, [some (.ref 76), some (.int x1), some (.int x2), some (.int x3), none, none], [], (iq_sh l, I, J, X))) (fun _ => rfl) hc_ ?_
    cases h
    exact iq_G_fg (L := [none, some (.int x1), none, none, none, none]) (And.intro rfl trivial) (hx (x1, I) rfl)
  · refine iq_G_neg (c := (I 76 5) ≤ x3) (σ1 := (19, [some (.ref 76), some (.int x1), some (.int x2), some (.int x3), none, none], [], (iq_sh l, I, J, X))) (fun _ => rfl) hc_ ?_
    refine iq_G_go (k := 4) (σ' := (24, [some (.ref 76), some (.int x1), some (.int x2), some (.int x3), some (.int (x3 + (1 : Int32))), none], [], (iq_sh l, I, J, X))) (fun _ => rfl) ?_
    obtain ⟨w3, hw3, h⟩ := iq_bnd h
    refine iq_G_fg (L := [some (.ref 76), some (.int x1), some (.int x2), some (.int x3), some (.int (x3 + (1 : Int32))), none]) (And.intro rfl (And.intro rfl (And.intro rfl (And.intro rfl (And.intro rfl trivial))))) ?_
    refine zM_nearest_l24_ok l x3 J X hw3 _ ?_
    show iq_Gg 2 294 (73, [some (.ref 76), some (.int w3.1), some (.int w3.2.1), some (.int x3), none, none], [], (iq_sh l, w3.2.2, J, X)) _
    refine iq_G_go (k := 2) (σ' := (11, [some (.ref 76), some (.int w3.1), some (.int w3.2.1), some (.int (x3 + (1 : Int32))), none, none], [], (iq_sh l, w3.2.2, J, X))) (fun _ => rfl) ?_
    cases h
    exact iq_G_fg (L := [some (.ref 76), some (.int w3.1), some (.int w3.2.1), some (.int (x3 + (1 : Int32))), none, none]) (And.intro rfl (And.intro rfl (And.intro rfl (And.intro rfl trivial)))) (hc (w3.1, w3.2.1, (x3 + (1 : Int32)), w3.2.2) rfl)
set_option maxRecDepth 100000 in
theorem zM_nearest_l11_ok (l : Nat)   (J : iq_J) (X : iq_X) {n : Nat} {v : Int32 × Int32 × Int32 × iq_I} {w : Int32 × iq_I} (h : zM_nearest_l11  n v = some w) (r : iq_R × iq_M) (hq : iq_Gg 2 294 (79, [none, some (.int w.1), none, none, none, none], [], (iq_sh l, w.2, J, X)) r) : iq_Gg 2 294 (11, [some (.ref 76), some (.int v.1), some (.int v.2.1), some (.int v.2.2.1), none, none], [], (iq_sh l, v.2.2.2, J, X)) r :=
  iq_lp_ok (σ := fun v => (11, [some (.ref 76), some (.int v.1), some (.int v.2.1), some (.int v.2.2.1), none, none], [], (iq_sh l, v.2.2.2, J, X))) (Q := fun w r => iq_Gg 2 294 (79, [none, some (.int w.1), none, none, none, none], [], (iq_sh l, w.2, J, X)) r) (fun v q hv r h1 h2 => zM_nearest_l11_bok l J X v.1 v.2.1 v.2.2.1 v.2.2.2 hv r h1 h2) h r hq
set_option maxRecDepth 100000 in
theorem zM_nearest_ok (l : Nat)   (I : iq_I) (J : iq_J) (X : iq_X) {q : Int32 × iq_I} (h : zM_nearest I = some q) : iq_Cc 3 294 [.ref 76] (iq_sh l, I, J, X) (.inl (some (.int q.1)), (iq_sh l, q.2, J, X)) := by
  refine iq_Cc_of (L := [some (.ref 76), none, none, none, none, none]) rfl rfl ?_
  unfold zM_nearest at h
  refine iq_G_go (k := 2) (σ' := (2, [some (.ref 76), none, none, none, none, none], [.int (0 : Int32), .ref 76], (iq_sh l, I, J, X))) (fun _ => rfl) ?_
  refine iq_G_go (k := 1) (σ' := (5, [some (.ref 76), none, none, none, none, none], [], (iq_sh l, (iq_upI I 76 0 (0 : Int32)), J, X))) (fun _ => rfl) ?_
  obtain ⟨I1, eI1, h⟩ := ir_letG h
  rw [← eI1]
  clear eI1
  refine iq_G_go (k := 6) (σ' := (11, [some (.ref 76), some (.int (-1 : Int32)), some (.int (0 : Int32)), some (.int (0 : Int32)), none, none], [], (iq_sh l, I1, J, X))) (fun _ => rfl) ?_
  obtain ⟨w4, hw4, h⟩ := iq_bnd h
  refine iq_G_fg (L := [some (.ref 76), some (.int (-1 : Int32)), some (.int (0 : Int32)), some (.int (0 : Int32)), none, none]) (And.intro rfl (And.intro rfl (And.intro rfl (And.intro rfl trivial)))) ?_
  refine zM_nearest_l11_ok l J X hw4 _ ?_
  show iq_Gg 2 294 (79, [none, some (.int w4.1), none, none, none, none], [], (iq_sh l, w4.2, J, X)) _
  refine iq_G_go (k := 1) (σ' := (80, [none, some (.int w4.1), none, none, none, none], [.int w4.1], (iq_sh l, w4.2, J, X))) (fun _ => rfl) ?_
  cases h
  exact iq_G_ret (fun _ => rfl)
set_option maxRecDepth 100000 in
theorem zO_alike_ok (l : Nat)  (x1 : Int32) (x2 : Int32) (I : iq_I) (J : iq_J) (X : iq_X) {q : (Int32 ⊕ Nat) × iq_I × iq_X} (h : zO_alike x1 x2 I X = some q) : iq_Cc 3 175 [.ref 1, .int x1, .int x2] (iq_sh l, I, J, X) ((ir_Ri q.1), (iq_sh l, q.2.1, J, q.2.2)) := by
  refine iq_Cc_of (L := [some (.ref 1), some (.int x1), some (.int x2)]) rfl rfl ?_
  unfold zO_alike at h
  refine iq_G_go (k := 2) (σ' := (2, [some (.ref 1), some (.int x1), some (.int x2)], [.int x1, .ref 1], (iq_sh l, I, J, X))) (fun _ => rfl) ?_
  obtain ⟨q1, hq1, h⟩ := iq_bnd h
  have hC := (zO_needSaying_ok l x1 I J X hq1)
  rcases iq_smc h with ⟨a2, ha, h⟩ | ⟨k3, ha, h⟩
  · rw [ha] at hC
    refine iq_G_call (σ' := (5, [some (.ref 1), some (.int x1), some (.int x2)], [], (iq_sh l, I, J, q1.2))) (fun _ => rfl) hC rfl rfl ?_
    refine iq_G_go (k := 2) (σ' := (7, [some (.ref 1), some (.int x1), some (.int x2)], [.int x2, .ref 1], (iq_sh l, I, J, q1.2))) (fun _ => rfl) ?_
    obtain ⟨q4, hq4, h⟩ := iq_bnd h
    have hC := (zO_needSaying_ok l x2 I J q1.2 hq4)
    rcases iq_smc h with ⟨a5, ha, h⟩ | ⟨k6, ha, h⟩
    · rw [ha] at hC
      refine iq_G_call (σ' := (10, [some (.ref 1), some (.int x1), some (.int x2)], [], (iq_sh l, I, J, q4.2))) (fun _ => rfl) hC rfl rfl ?_
      refine iq_G_go (k := 6) (σ' := (20, [some (.ref 1), some (.int x1), some (.int x2)], [.int x2, .int x1, .ref 16, .ref 72], (iq_sh l, I, J, q4.2))) (fun _ => rfl) ?_
      obtain ⟨q7, hq7, h⟩ := iq_bnd h
      refine iq_G_call (σ' := (23, [some (.ref 1), some (.int x1), some (.int x2)], [.int q7.1], (iq_sh l, q7.2, J, q4.2))) (fun _ => rfl) (zW_fewestChanges_ok l x1 x2 I J q4.2 hq7) rfl rfl ?_
      cases h
      exact iq_G_ret (fun _ => rfl)
    · rw [ha] at hC
      cases h
      exact iq_G_callx (fun _ => rfl) hC rfl rfl
  · rw [ha] at hC
    cases h
    exact iq_G_callx (fun _ => rfl) hC rfl rfl
set_option maxRecDepth 100000 in
theorem zL_alike_ok (l : Nat)  (x1 : Int32) (x2 : Int32) (I : iq_I) (J : iq_J) (X : iq_X) {q : Int32 × iq_I × iq_J × iq_X} (h : zL_alike x1 x2 I J X = some q) : iq_Cc 4 345 [.ref 1, .int x1, .int x2, .ref 114] (iq_sh l, I, J, X) (.inl (some (.int q.1)), (iq_sh l, q.2.1, q.2.2.1, q.2.2.2)) := by
  refine iq_Cc_of (L := [some (.ref 1), some (.int x1), some (.int x2), some (.ref 114), none]) rfl rfl ?_
  unfold zL_alike at h
  refine iq_G_go (k := 5) (σ' := (5, [some (.ref 1), some (.int x1), some (.int x2), some (.ref 114), none], [.int x2, .int x1, .ref 1, .int (0 : Int32), .ref 114], (iq_sh l, I, J, X))) (fun _ => rfl) ?_
  obtain ⟨q1, hq1, h⟩ := iq_bnd h
  have hC := (zO_alike_ok l x1 x2 I J X hq1)
  rcases iq_smc h with ⟨a2, ha, h⟩ | ⟨k3, ha, h⟩
  · rw [ha] at hC
    refine iq_G_call (σ' := (8, [some (.ref 1), some (.int x1), some (.int x2), some (.ref 114), none], [.int a2, .int (0 : Int32), .ref 114], (iq_sh l, q1.2.1, J, q1.2.2))) (fun _ => rfl) hC rfl rfl ?_
    refine iq_G_go (k := 1) (σ' := (9, [some (.ref 1), some (.int x1), some (.int x2), some (.ref 114), none], [.long (Int32.toInt64 a2), .int (0 : Int32), .ref 114], (iq_sh l, q1.2.1, J, q1.2.2))) (fun _ => rfl) ?_
    refine iq_G_go (k := 1) (σ' := (10, [some (.ref 1), some (.int x1), some (.int x2), some (.ref 114), none], [], (iq_sh l, q1.2.1, (iq_upJ J 114 0 (Int32.toInt64 a2)), q1.2.2))) (fun _ => rfl) ?_
    obtain ⟨J4, eJ4, h⟩ := ir_letG h
    rw [← eJ4]
    clear eJ4
    refine iq_G_go (k := 2) (σ' := (18, [some (.ref 1), some (.int x1), some (.int x2), some (.ref 114), none], [.int (0 : Int32)], (iq_sh l, q1.2.1, J4, q1.2.2))) (fun _ => rfl) ?_
    cases h
    exact iq_G_ret (fun _ => rfl)
  · rw [ha] at hC
    rcases iq_ite h with ⟨e, h⟩ | ⟨_, h⟩
    · subst e
      refine iq_G_call (σ' := (15, [some (.ref 1), some (.int x1), some (.int x2), some (.ref 114), none], [], (iq_sh l, q1.2.1, J, q1.2.2))) (fun _ => rfl) hC rfl rfl ?_
      refine iq_G_go (k := 1) (σ' := (16, [some (.ref 1), some (.int x1), some (.int x2), some (.ref 114), none], [.int (1 : Int32)], (iq_sh l, q1.2.1, J, q1.2.2))) (fun _ => rfl) ?_
      cases h
      exact iq_G_ret (fun _ => rfl)
    · obtain ⟨e, h⟩ := iq_itn h
      cases h
set_option maxRecDepth 100000 in
theorem zM_alike_ok (l : Nat)  (x1 : Int32) (x2 : Int32) (I : iq_I) (J : iq_J) (X : iq_X) {q : Int32 × iq_I} (h : zM_alike x1 x2 I = some q) : iq_Cc 3 293 [.ref 76, .int x1, .int x2] (iq_sh l, I, J, X) (.inl (some (.int q.1)), (iq_sh l, q.2, J, X)) := by
  refine iq_Cc_of (L := [some (.ref 76), some (.int x1), some (.int x2)]) rfl rfl ?_
  unfold zM_alike at h
  refine iq_G_go (k := 2) (σ' := (2, [some (.ref 76), some (.int x1), some (.int x2)], [.int (0 : Int32), .ref 76], (iq_sh l, I, J, X))) (fun _ => rfl) ?_
  refine iq_G_go (k := 1) (σ' := (5, [some (.ref 76), some (.int x1), some (.int x2)], [], (iq_sh l, (iq_upI I 76 0 (0 : Int32)), J, X))) (fun _ => rfl) ?_
  obtain ⟨I1, eI1, h⟩ := ir_letG h
  rw [← eI1]
  clear eI1
  refine iq_G_go (k := 2) (σ' := (7, [some (.ref 76), some (.int x1), some (.int x2)], [.int x1, .ref 76], (iq_sh l, I1, J, X))) (fun _ => rfl) ?_
  obtain ⟨q2, hq2, h⟩ := iq_bnd h
  refine iq_G_call (σ' := (10, [some (.ref 76), some (.int x1), some (.int x2)], [.int q2.1], (iq_sh l, q2.2, J, X))) (fun _ => rfl) (zM_isSaying_ok l x1 I1 J X hq2) rfl rfl ?_
  rcases iq_ite h with ⟨hc_, h⟩ | ⟨hc_, h⟩
  · refine iq_G_pos (c := q2.1 = 0) (σ1 := (30, [some (.ref 76), some (.int x1), some (.int x2)], [], (iq_sh l, q2.2, J, X))) (fun _ => rfl) hc_ ?_
    refine iq_G_go (k := 1) (σ' := (31, [some (.ref 76), some (.int x1), some (.int x2)], [.int (0 : Int32)], (iq_sh l, q2.2, J, X))) (fun _ => rfl) ?_
    cases h
    exact iq_G_ret (fun _ => rfl)
  · refine iq_G_neg (c := q2.1 = 0) (σ1 := (13, [some (.ref 76), some (.int x1), some (.int x2)], [], (iq_sh l, q2.2, J, X))) (fun _ => rfl) hc_ ?_
    refine iq_G_go (k := 2) (σ' := (15, [some (.ref 76), some (.int x1), some (.int x2)], [.int x2, .ref 76], (iq_sh l, q2.2, J, X))) (fun _ => rfl) ?_
    obtain ⟨q3, hq3, h⟩ := iq_bnd h
    refine iq_G_call (σ' := (18, [some (.ref 76), some (.int x1), some (.int x2)], [.int q3.1], (iq_sh l, q3.2, J, X))) (fun _ => rfl) (zM_isSaying_ok l x2 q2.2 J X hq3) rfl rfl ?_
    rcases iq_ite h with ⟨hc_, h⟩ | ⟨hc_, h⟩
    · refine iq_G_pos (c := q3.1 = 0) (σ1 := (30, [some (.ref 76), some (.int x1), some (.int x2)], [], (iq_sh l, q3.2, J, X))) (fun _ => rfl) hc_ ?_
      refine iq_G_go (k := 1) (σ' := (31, [some (.ref 76), some (.int x1), some (.int x2)], [.int (0 : Int32)], (iq_sh l, q3.2, J, X))) (fun _ => rfl) ?_
      cases h
      exact iq_G_ret (fun _ => rfl)
    · refine iq_G_neg (c := q3.1 = 0) (σ1 := (21, [some (.ref 76), some (.int x1), some (.int x2)], [], (iq_sh l, q3.2, J, X))) (fun _ => rfl) hc_ ?_
      refine iq_G_go (k := 3) (σ' := (24, [some (.ref 76), some (.int x1), some (.int x2)], [.int x2, .int x1, .ref 76], (iq_sh l, q3.2, J, X))) (fun _ => rfl) ?_
      obtain ⟨q4, hq4, h⟩ := iq_bnd h
      refine iq_G_call (σ' := (27, [some (.ref 76), some (.int x1), some (.int x2)], [.int q4.1], (iq_sh l, q4.2, J, X))) (fun _ => rfl) (zM_alikeOf_ok l x1 x2 q3.2 J X hq4) rfl rfl ?_
      refine iq_G_go (k := 1) (σ' := (31, [some (.ref 76), some (.int x1), some (.int x2)], [.int q4.1], (iq_sh l, q4.2, J, X))) (fun _ => rfl) ?_
      cases h
      exact iq_G_ret (fun _ => rfl)
set_option maxRecDepth 100000 in
theorem zW_whereBegun_l5_bok (l : Nat)  (x2 : Int32) (I : iq_I) (J : iq_J) (X : iq_X) (x3 : Int32) (x4 : Int32)  {q : (Int32 × Int32) ⊕ (Int32)} (h : zW_whereBegun_l5_b x2 I x3 x4 = some q) (r : iq_R × iq_M) (hc : ∀ v, q = .inl v → iq_Gg 2 112 (5, [some (.ref 72), some (.ref 16), some (.int x2), some (.int v.1), some (.int v.2)], [], (iq_sh l, I, J, X)) r) (hx : ∀ w, q = .inr w → iq_Gg 2 112 (46, [none, none, none, some (.int w), none], [], (iq_sh l, I, J, X)) r) : iq_Gg 2 112 (5, [some (.ref 72), some (.ref 16), some (.int x2), some (.int x3), some (.int x4)], [], (iq_sh l, I, J, X)) r := by
  unfold zW_whereBegun_l5_b at h
  refine iq_G_go (k := 4) (σ' := (14, [some (.ref 72), some (.ref 16), some (.int x2), some (.int x3), some (.int x4)], [.int (I 4 0), .int x4], (iq_sh l, I, J, X))) (fun _ => rfl) ?_
  rcases iq_ite h with ⟨hc_, h⟩ | ⟨hc_, h⟩
  · refine iq_G_pos (c := (I 4 0) ≤ x4) (σ1 := (46, [some (.ref 72), some (.ref 16), some (.int x2), some (.int x3), some (.int x4)], [], (iq_sh l, I, J, X))) (fun _ => rfl) hc_ ?_
    cases h
    exact iq_G_fg (L := [none, none, none, some (.int x3), none]) (And.intro rfl trivial) (hx x3 rfl)
  · refine iq_G_neg (c := (I 4 0) ≤ x4) (σ1 := (17, [some (.ref 72), some (.ref 16), some (.int x2), some (.int x3), some (.int x4)], [], (iq_sh l, I, J, X))) (fun _ => rfl) hc_ ?_
    refine iq_G_go (k := 6) (σ' := (26, [some (.ref 72), some (.ref 16), some (.int x2), some (.int x3), some (.int x4)], [.int (-1 : Int32), .int x4, .int x2, .ref 16, .ref 4], (iq_sh l, I, J, X))) (fun _ => rfl) ?_
    obtain ⟨q1, hq1, h⟩ := iq_bnd h
    refine iq_G_call (σ' := (29, [some (.ref 72), some (.ref 16), some (.int x2), some (.int x3), some (.int x4)], [.int q1], (iq_sh l, I, J, X))) (fun _ => rfl) (zU_stateFrom_4_16_ok l x2 x4 (-1 : Int32) I J X hq1) rfl rfl ?_
    refine iq_G_go (k := 1) (σ' := (30, [some (.ref 72), some (.ref 16), some (.int x2), some (.int x3), some (.int x4)], [.int (-1 : Int32), .int q1], (iq_sh l, I, J, X))) (fun _ => rfl) ?_
    rcases iq_ite h with ⟨hc_, h⟩ | ⟨hc_, h⟩
    · refine iq_G_pos (c := q1 = (-1 : Int32)) (σ1 := (40, [some (.ref 72), some (.ref 16), some (.int x2), some (.int x3), some (.int x4)], [], (iq_sh l, I, J, X))) (fun _ => rfl) hc_ ?_
      refine iq_G_go (k := 2) (σ' := (5, [some (.ref 72), some (.ref 16), some (.int x2), some (.int x3), some (.int (x4 + (1 : Int32)))], [], (iq_sh l, I, J, X))) (fun _ => rfl) ?_
      cases h
      exact iq_G_fg (L := [some (.ref 72), some (.ref 16), some (.int x2), some (.int x3), some (.int (x4 + (1 : Int32)))]) (And.intro rfl (And.intro rfl (And.intro rfl (And.intro rfl (And.intro rfl trivial))))) (hc (x3, (x4 + (1 : Int32))) rfl)
    · refine iq_G_neg (c := q1 = (-1 : Int32)) (σ1 := (33, [some (.ref 72), some (.ref 16), some (.int x2), some (.int x3), some (.int x4)], [], (iq_sh l, I, J, X))) (fun _ => rfl) hc_ ?_
      refine iq_G_go (k := 8) (σ' := (5, [some (.ref 72), some (.ref 16), some (.int x2), some (.int (x3 ||| ((1 : Int32) <<< (x4 &&& 31)))), some (.int (x4 + (1 : Int32)))], [], (iq_sh l, I, J, X))) (fun _ => rfl) ?_
      cases h
      exact iq_G_fg (L := [some (.ref 72), some (.ref 16), some (.int x2), some (.int (x3 ||| ((1 : Int32) <<< (x4 &&& 31)))), some (.int (x4 + (1 : Int32)))]) (And.intro rfl (And.intro rfl (And.intro rfl (And.intro rfl (And.intro rfl trivial))))) (hc ((x3 ||| ((1 : Int32) <<< (x4 &&& 31))), (x4 + (1 : Int32))) rfl)
set_option maxRecDepth 100000 in
theorem zW_whereBegun_l5_ok (l : Nat)  (x2 : Int32) (I : iq_I) (J : iq_J) (X : iq_X) {n : Nat} {v : Int32 × Int32} {w : Int32} (h : zW_whereBegun_l5 x2 I n v = some w) (r : iq_R × iq_M) (hq : iq_Gg 2 112 (46, [none, none, none, some (.int w), none], [], (iq_sh l, I, J, X)) r) : iq_Gg 2 112 (5, [some (.ref 72), some (.ref 16), some (.int x2), some (.int v.1), some (.int v.2)], [], (iq_sh l, I, J, X)) r :=
  iq_lp_ok (σ := fun v => (5, [some (.ref 72), some (.ref 16), some (.int x2), some (.int v.1), some (.int v.2)], [], (iq_sh l, I, J, X))) (Q := fun w r => iq_Gg 2 112 (46, [none, none, none, some (.int w), none], [], (iq_sh l, I, J, X)) r) (fun v q hv r h1 h2 => zW_whereBegun_l5_bok l x2 I J X v.1 v.2 hv r h1 h2) h r hq
set_option maxRecDepth 100000 in
theorem zW_whereBegun_ok (l : Nat)  (x2 : Int32) (I : iq_I) (J : iq_J) (X : iq_X) {q : Int32} (h : zW_whereBegun x2 I = some q) : iq_Cc 3 112 [.ref 72, .ref 16, .int x2] (iq_sh l, I, J, X) (.inl (some (.int q)), (iq_sh l, I, J, X)) := by
  refine iq_Cc_of (L := [some (.ref 72), some (.ref 16), some (.int x2), none, none]) rfl rfl ?_
  unfold zW_whereBegun at h
  refine iq_G_go (k := 4) (σ' := (5, [some (.ref 72), some (.ref 16), some (.int x2), some (.int (0 : Int32)), some (.int (0 : Int32))], [], (iq_sh l, I, J, X))) (fun _ => rfl) ?_
  obtain ⟨w2, hw2, h⟩ := iq_bnd h
  refine iq_G_fg (L := [some (.ref 72), some (.ref 16), some (.int x2), some (.int (0 : Int32)), some (.int (0 : Int32))]) (And.intro rfl (And.intro rfl (And.intro rfl (And.intro rfl (And.intro rfl trivial))))) ?_
  refine zW_whereBegun_l5_ok l x2 I J X hw2 _ ?_
  show iq_Gg 2 112 (46, [none, none, none, some (.int w2), none], [], (iq_sh l, I, J, X)) _
  refine iq_G_go (k := 1) (σ' := (47, [none, none, none, some (.int w2), none], [.int w2], (iq_sh l, I, J, X))) (fun _ => rfl) ?_
  cases h
  exact iq_G_ret (fun _ => rfl)
set_option maxRecDepth 100000 in
theorem zO_begun_ok (l : Nat)  (x1 : Int32) (I : iq_I) (J : iq_J) (X : iq_X) {q : (Int32 ⊕ Nat) × iq_X} (h : zO_begun x1 I X = some q) : iq_Cc 4 174 [.ref 1, .int x1] (iq_sh l, I, J, X) ((ir_Ri q.1), (iq_sh l, I, J, q.2)) := by
  refine iq_Cc_of (L := [some (.ref 1), some (.int x1)]) rfl rfl ?_
  unfold zO_begun at h
  refine iq_G_go (k := 2) (σ' := (2, [some (.ref 1), some (.int x1)], [.int x1, .ref 1], (iq_sh l, I, J, X))) (fun _ => rfl) ?_
  obtain ⟨q1, hq1, h⟩ := iq_bnd h
  have hC := (zO_needSaying_ok l x1 I J X hq1)
  rcases iq_smc h with ⟨a2, ha, h⟩ | ⟨k3, ha, h⟩
  · rw [ha] at hC
    refine iq_G_call (σ' := (5, [some (.ref 1), some (.int x1)], [], (iq_sh l, I, J, q1.2))) (fun _ => rfl) hC rfl rfl ?_
    refine iq_G_go (k := 5) (σ' := (14, [some (.ref 1), some (.int x1)], [.int x1, .ref 16, .ref 72], (iq_sh l, I, J, q1.2))) (fun _ => rfl) ?_
    obtain ⟨q4, hq4, h⟩ := iq_bnd h
    refine iq_G_call (σ' := (17, [some (.ref 1), some (.int x1)], [.int q4], (iq_sh l, I, J, q1.2))) (fun _ => rfl) (zW_whereBegun_ok l x1 I J q1.2 hq4) rfl rfl ?_
    cases h
    exact iq_G_ret (fun _ => rfl)
  · rw [ha] at hC
    cases h
    exact iq_G_callx (fun _ => rfl) hC rfl rfl
set_option maxRecDepth 100000 in
theorem zL_begun_ok (l : Nat)  (x1 : Int32) (I : iq_I) (J : iq_J) (X : iq_X) {q : Int32 × iq_J × iq_X} (h : zL_begun x1 I J X = some q) : iq_Cc 5 344 [.ref 1, .int x1, .ref 114] (iq_sh l, I, J, X) (.inl (some (.int q.1)), (iq_sh l, I, q.2.1, q.2.2)) := by
  refine iq_Cc_of (L := [some (.ref 1), some (.int x1), some (.ref 114), none]) rfl rfl ?_
  unfold zL_begun at h
  refine iq_G_go (k := 4) (σ' := (4, [some (.ref 1), some (.int x1), some (.ref 114), none], [.int x1, .ref 1, .int (0 : Int32), .ref 114], (iq_sh l, I, J, X))) (fun _ => rfl) ?_
  obtain ⟨q1, hq1, h⟩ := iq_bnd h
  have hC := (zO_begun_ok l x1 I J X hq1)
  rcases iq_smc h with ⟨a2, ha, h⟩ | ⟨k3, ha, h⟩
  · rw [ha] at hC
    refine iq_G_call (σ' := (7, [some (.ref 1), some (.int x1), some (.ref 114), none], [.int a2, .int (0 : Int32), .ref 114], (iq_sh l, I, J, q1.2))) (fun _ => rfl) hC rfl rfl ?_
    refine iq_G_go (k := 1) (σ' := (8, [some (.ref 1), some (.int x1), some (.ref 114), none], [.long (Int32.toInt64 a2), .int (0 : Int32), .ref 114], (iq_sh l, I, J, q1.2))) (fun _ => rfl) ?_
    refine iq_G_go (k := 1) (σ' := (9, [some (.ref 1), some (.int x1), some (.ref 114), none], [], (iq_sh l, I, (iq_upJ J 114 0 (Int32.toInt64 a2)), q1.2))) (fun _ => rfl) ?_
    obtain ⟨J4, eJ4, h⟩ := ir_letG h
    rw [← eJ4]
    clear eJ4
    refine iq_G_go (k := 2) (σ' := (16, [some (.ref 1), some (.int x1), some (.ref 114), none], [.int (0 : Int32)], (iq_sh l, I, J4, q1.2))) (fun _ => rfl) ?_
    cases h
    exact iq_G_ret (fun _ => rfl)
  · rw [ha] at hC
    rcases iq_ite h with ⟨e, h⟩ | ⟨_, h⟩
    · subst e
      refine iq_G_call (σ' := (13, [some (.ref 1), some (.int x1), some (.ref 114), none], [], (iq_sh l, I, J, q1.2))) (fun _ => rfl) hC rfl rfl ?_
      refine iq_G_go (k := 1) (σ' := (14, [some (.ref 1), some (.int x1), some (.ref 114), none], [.int (1 : Int32)], (iq_sh l, I, J, q1.2))) (fun _ => rfl) ?_
      cases h
      exact iq_G_ret (fun _ => rfl)
    · obtain ⟨e, h⟩ := iq_itn h
      cases h
set_option maxRecDepth 100000 in
theorem zM_begun_l19_bok (l : Nat)  (x1 : Int32) (I : iq_I) (J : iq_J) (X : iq_X) (x2 : Int32) (x3 : Int32)  {q : (Int32 × Int32) ⊕ (Int32)} (h : zM_begun_l19_b x1 I x2 x3 = some q) (r : iq_R × iq_M) (hc : ∀ v, q = .inl v → iq_Gg 2 291 (19, [some (.ref 76), some (.int x1), some (.int v.1), some (.int v.2)], [], (iq_sh l, I, J, X)) r) (hx : ∀ w, q = .inr w → iq_Gg 2 291 (58, [none, none, some (.int w), none], [], (iq_sh l, I, J, X)) r) : iq_Gg 2 291 (19, [some (.ref 76), some (.int x1), some (.int x2), some (.int x3)], [], (iq_sh l, I, J, X)) r := by
  unfold zM_begun_l19_b at h
  refine iq_G_go (k := 3) (σ' := (24, [some (.ref 76), some (.int x1), some (.int x2), some (.int x3)], [.int (I 76 1), .int x3], (iq_sh l, I, J, X))) (fun _ => rfl) ?_
  rcases iq_ite h with ⟨hc_, h⟩ | ⟨hc_, h⟩
  · refine iq_G_pos (c := (I 76 1) ≤ x3) (σ1 := (58, [some (.ref 76), some (.int x1), some (.int x2), some (.int x3)], [], (iq_sh l, I, J, X))) (fun _ => rfl) hc_ ?_
    cases h
    exact iq_G_fg (L := [none, none, some (.int x2), none]) (And.intro rfl trivial) (hx x2 rfl)
  · refine iq_G_neg (c := (I 76 1) ≤ x3) (σ1 := (27, [some (.ref 76), some (.int x1), some (.int x2), some (.int x3)], [], (iq_sh l, I, J, X))) (fun _ => rfl) hc_ ?_
    refine iq_G_go (k := 7) (σ' := (36, [some (.ref 76), some (.int x1), some (.int x2), some (.int x3)], [.int (-1 : Int32), .int x3, .int x1, .ref 98, .ref 76, .int x2], (iq_sh l, I, J, X))) (fun _ => rfl) ?_
    obtain ⟨q3, hq3, h⟩ := iq_bnd h
    refine iq_G_call (σ' := (39, [some (.ref 76), some (.int x1), some (.int x2), some (.int x3)], [.int q3, .int x2], (iq_sh l, I, J, X))) (fun _ => rfl) (zM_stateOf_76_98_ok l x1 x3 (-1 : Int32) I J X hq3) rfl rfl ?_
    refine iq_G_go (k := 1) (σ' := (40, [some (.ref 76), some (.int x1), some (.int x2), some (.int x3)], [.int (-1 : Int32), .int q3, .int x2], (iq_sh l, I, J, X))) (fun _ => rfl) ?_
    rcases iq_ite h with ⟨hc_, h⟩ | ⟨hc_, h⟩
    · refine iq_G_pos (c := q3 = (-1 : Int32)) (σ1 := (49, [some (.ref 76), some (.int x1), some (.int x2), some (.int x3)], [.int x2], (iq_sh l, I, J, X))) (fun _ => rfl) hc_ ?_
      refine iq_G_go (k := 5) (σ' := (19, [some (.ref 76), some (.int x1), some (.int (x2 ||| (0 : Int32))), some (.int (x3 + (1 : Int32)))], [], (iq_sh l, I, J, X))) (fun _ => rfl) ?_
      cases h
      exact iq_G_fg (L := [some (.ref 76), some (.int x1), some (.int (x2 ||| (0 : Int32))), some (.int (x3 + (1 : Int32)))]) (And.intro rfl (And.intro rfl (And.intro rfl (And.intro rfl trivial)))) (hc ((x2 ||| (0 : Int32)), (x3 + (1 : Int32))) rfl)
    · refine iq_G_neg (c := q3 = (-1 : Int32)) (σ1 := (43, [some (.ref 76), some (.int x1), some (.int x2), some (.int x3)], [.int x2], (iq_sh l, I, J, X))) (fun _ => rfl) hc_ ?_
      refine iq_G_go (k := 8) (σ' := (19, [some (.ref 76), some (.int x1), some (.int (x2 ||| ((1 : Int32) <<< (x3 &&& 31)))), some (.int (x3 + (1 : Int32)))], [], (iq_sh l, I, J, X))) (fun _ => rfl) ?_
      cases h
      exact iq_G_fg (L := [some (.ref 76), some (.int x1), some (.int (x2 ||| ((1 : Int32) <<< (x3 &&& 31)))), some (.int (x3 + (1 : Int32)))]) (And.intro rfl (And.intro rfl (And.intro rfl (And.intro rfl trivial)))) (hc ((x2 ||| ((1 : Int32) <<< (x3 &&& 31))), (x3 + (1 : Int32))) rfl)
set_option maxRecDepth 100000 in
theorem zM_begun_l19_ok (l : Nat)  (x1 : Int32) (I : iq_I) (J : iq_J) (X : iq_X) {n : Nat} {v : Int32 × Int32} {w : Int32} (h : zM_begun_l19 x1 I n v = some w) (r : iq_R × iq_M) (hq : iq_Gg 2 291 (58, [none, none, some (.int w), none], [], (iq_sh l, I, J, X)) r) : iq_Gg 2 291 (19, [some (.ref 76), some (.int x1), some (.int v.1), some (.int v.2)], [], (iq_sh l, I, J, X)) r :=
  iq_lp_ok (σ := fun v => (19, [some (.ref 76), some (.int x1), some (.int v.1), some (.int v.2)], [], (iq_sh l, I, J, X))) (Q := fun w r => iq_Gg 2 291 (58, [none, none, some (.int w), none], [], (iq_sh l, I, J, X)) r) (fun v q hv r h1 h2 => zM_begun_l19_bok l x1 I J X v.1 v.2 hv r h1 h2) h r hq
set_option maxRecDepth 100000 in
theorem zM_begun_ok (l : Nat)  (x1 : Int32) (I : iq_I) (J : iq_J) (X : iq_X) {q : Int32 × iq_I} (h : zM_begun x1 I = some q) : iq_Cc 3 291 [.ref 76, .int x1] (iq_sh l, I, J, X) (.inl (some (.int q.1)), (iq_sh l, q.2, J, X)) := by
  refine iq_Cc_of (L := [some (.ref 76), some (.int x1), none, none]) rfl rfl ?_
  unfold zM_begun at h
  refine iq_G_go (k := 2) (σ' := (2, [some (.ref 76), some (.int x1), none, none], [.int (0 : Int32), .ref 76], (iq_sh l, I, J, X))) (fun _ => rfl) ?_
  refine iq_G_go (k := 1) (σ' := (5, [some (.ref 76), some (.int x1), none, none], [], (iq_sh l, (iq_upI I 76 0 (0 : Int32)), J, X))) (fun _ => rfl) ?_
  obtain ⟨I1, eI1, h⟩ := ir_letG h
  rw [← eI1]
  clear eI1
  refine iq_G_go (k := 2) (σ' := (7, [some (.ref 76), some (.int x1), none, none], [.int x1, .ref 76], (iq_sh l, I1, J, X))) (fun _ => rfl) ?_
  obtain ⟨q2, hq2, h⟩ := iq_bnd h
  refine iq_G_call (σ' := (10, [some (.ref 76), some (.int x1), none, none], [.int q2.1], (iq_sh l, q2.2, J, X))) (fun _ => rfl) (zM_isSaying_ok l x1 I1 J X hq2) rfl rfl ?_
  rcases iq_ite h with ⟨hc_, h⟩ | ⟨hc_, h⟩
  · refine iq_G_pos (c := ¬ q2.1 = 0) (σ1 := (15, [some (.ref 76), some (.int x1), none, none], [], (iq_sh l, q2.2, J, X))) (fun _ => rfl) hc_ ?_
    refine iq_G_go (k := 4) (σ' := (19, [some (.ref 76), some (.int x1), some (.int (0 : Int32)), some (.int (0 : Int32))], [], (iq_sh l, q2.2, J, X))) (fun _ => rfl) ?_
    obtain ⟨w4, hw4, h⟩ := iq_bnd h
    refine iq_G_fg (L := [some (.ref 76), some (.int x1), some (.int (0 : Int32)), some (.int (0 : Int32))]) (And.intro rfl (And.intro rfl (And.intro rfl (And.intro rfl trivial)))) ?_
    refine zM_begun_l19_ok l x1 q2.2 J X hw4 _ ?_
    show iq_Gg 2 291 (58, [none, none, some (.int w4), none], [], (iq_sh l, q2.2, J, X)) _
    refine iq_G_go (k := 1) (σ' := (59, [none, none, some (.int w4), none], [.int w4], (iq_sh l, q2.2, J, X))) (fun _ => rfl) ?_
    cases h
    exact iq_G_ret (fun _ => rfl)
  · refine iq_G_neg (c := ¬ q2.1 = 0) (σ1 := (13, [some (.ref 76), some (.int x1), none, none], [], (iq_sh l, q2.2, J, X))) (fun _ => rfl) hc_ ?_
    refine iq_G_go (k := 1) (σ' := (14, [some (.ref 76), some (.int x1), none, none], [.int (0 : Int32)], (iq_sh l, q2.2, J, X))) (fun _ => rfl) ?_
    cases h
    exact iq_G_ret (fun _ => rfl)
set_option maxRecDepth 100000 in
theorem zH_whatMayCome_69_16_l16_bok (l : Nat)  (x2 : Int32) (x3 : Int32) (J : iq_J) (X : iq_X) (x4 : Int32) (x5 : Int32) (I : iq_I) {q : (Int32 × Int32 × iq_I) ⊕ (Int32 × iq_I)} (h : zH_whatMayCome_69_16_l16_b x2 x3 x4 x5 I = some q) (r : iq_R × iq_M) (hc : ∀ v, q = .inl v → iq_Gg 3 19 (16, [some (.ref 69), some (.ref 16), some (.int x2), some (.int x3), some (.int v.1), some (.int v.2.1)], [], (iq_sh l, v.2.2, J, X)) r) (hx : ∀ w, q = .inr w → iq_Gg 3 19 (70, [none, none, none, none, some (.int w.1), none], [], (iq_sh l, w.2, J, X)) r) : iq_Gg 3 19 (16, [some (.ref 69), some (.ref 16), some (.int x2), some (.int x3), some (.int x4), some (.int x5)], [], (iq_sh l, I, J, X)) r := by
  unfold zH_whatMayCome_69_16_l16_b at h
  refine iq_G_go (k := 4) (σ' := (25, [some (.ref 69), some (.ref 16), some (.int x2), some (.int x3), some (.int x4), some (.int x5)], [.int (I 4 2), .int x5], (iq_sh l, I, J, X))) (fun _ => rfl) ?_
  rcases iq_ite h with ⟨hc_, h⟩ | ⟨hc_, h⟩
  · refine iq_G_pos (c := (I 4 2) ≤ x5) (σ1 := (70, [some (.ref 69), some (.ref 16), some (.int x2), some (.int x3), some (.int x4), some (.int x5)], [], (iq_sh l, I, J, X))) (fun _ => rfl) hc_ ?_
    cases h
    exact iq_G_fg (L := [none, none, none, none, some (.int x4), none]) (And.intro rfl trivial) (hx (x4, I) rfl)
  · refine iq_G_neg (c := (I 4 2) ≤ x5) (σ1 := (28, [some (.ref 69), some (.ref 16), some (.int x2), some (.int x3), some (.int x4), some (.int x5)], [], (iq_sh l, I, J, X))) (fun _ => rfl) hc_ ?_
    refine iq_G_go (k := 5) (σ' := (34, [some (.ref 69), some (.ref 16), some (.int x2), some (.int x3), some (.int x4), some (.int x5)], [.int x5, .int x3, .int x2, .ref 16, .ref 69], (iq_sh l, I, J, X))) (fun _ => rfl) ?_
    obtain ⟨q2, hq2, h⟩ := iq_bnd h
    refine iq_G_call (σ' := (37, [some (.ref 69), some (.ref 16), some (.int x2), some (.int x3), some (.int x4), some (.int x5)], [.int q2], (iq_sh l, I, J, X))) (fun _ => rfl) (zH_isFree_69_16_ok l x2 x3 x5 I J X hq2) rfl rfl ?_
    rcases iq_ite h with ⟨hc_, h⟩ | ⟨hc_, h⟩
    · refine iq_G_pos (c := q2 = 0) (σ1 := (64, [some (.ref 69), some (.ref 16), some (.int x2), some (.int x3), some (.int x4), some (.int x5)], [], (iq_sh l, I, J, X))) (fun _ => rfl) hc_ ?_
      refine iq_G_go (k := 2) (σ' := (16, [some (.ref 69), some (.ref 16), some (.int x2), some (.int x3), some (.int x4), some (.int (x5 + (1 : Int32)))], [], (iq_sh l, I, J, X))) (fun _ => rfl) ?_
      cases h
      exact iq_G_fg (L := [some (.ref 69), some (.ref 16), some (.int x2), some (.int x3), some (.int x4), some (.int (x5 + (1 : Int32)))]) (And.intro rfl (And.intro rfl (And.intro rfl (And.intro rfl (And.intro rfl (And.intro rfl trivial)))))) (hc (x4, (x5 + (1 : Int32)), I) rfl)
    · refine iq_G_neg (c := q2 = 0) (σ1 := (40, [some (.ref 69), some (.ref 16), some (.int x2), some (.int x3), some (.int x4), some (.int x5)], [], (iq_sh l, I, J, X))) (fun _ => rfl) hc_ ?_
      refine iq_G_go (k := 6) (σ' := (49, [some (.ref 69), some (.ref 16), some (.int x2), some (.int x3), some (.int x4), some (.int x5)], [.int (I 16 1), .int x5, .int x2, .ref 16, .ref 69], (iq_sh l, I, J, X))) (fun _ => rfl) ?_
      obtain ⟨q3, hq3, h⟩ := iq_bnd h
      refine iq_G_call (σ' := (52, [some (.ref 69), some (.ref 16), some (.int x2), some (.int x3), some (.int x4), some (.int x5)], [.int q3.1], (iq_sh l, q3.2, J, X))) (fun _ => rfl) (zH_isLawful_69_16_ok l x2 x5 (I 16 1) I J X hq3) rfl rfl ?_
      rcases iq_ite h with ⟨hc_, h⟩ | ⟨hc_, h⟩
      · refine iq_G_pos (c := q3.1 = 0) (σ1 := (64, [some (.ref 69), some (.ref 16), some (.int x2), some (.int x3), some (.int x4), some (.int x5)], [], (iq_sh l, q3.2, J, X))) (fun _ => rfl) hc_ ?_
        refine iq_G_go (k := 2) (σ' := (16, [some (.ref 69), some (.ref 16), some (.int x2), some (.int x3), some (.int x4), some (.int (x5 + (1 : Int32)))], [], (iq_sh l, q3.2, J, X))) (fun _ => rfl) ?_
        cases h
        exact iq_G_fg (L := [some (.ref 69), some (.ref 16), some (.int x2), some (.int x3), some (.int x4), some (.int (x5 + (1 : Int32)))]) (And.intro rfl (And.intro rfl (And.intro rfl (And.intro rfl (And.intro rfl (And.intro rfl trivial)))))) (hc (x4, (x5 + (1 : Int32)), q3.2) rfl)
      · refine iq_G_neg (c := q3.1 = 0) (σ1 := (55, [some (.ref 69), some (.ref 16), some (.int x2), some (.int x3), some (.int x4), some (.int x5)], [], (iq_sh l, q3.2, J, X))) (fun _ => rfl) hc_ ?_
        refine iq_G_go (k := 8) (σ' := (16, [some (.ref 69), some (.ref 16), some (.int x2), some (.int x3), some (.int (x4 ||| ((1 : Int32) <<< (x5 &&& 31)))), some (.int (x5 + (1 : Int32)))], [], (iq_sh l, q3.2, J, X))) (fun _ => rfl) ?_
        cases h
        exact iq_G_fg (L := [some (.ref 69), some (.ref 16), some (.int x2), some (.int x3), some (.int (x4 ||| ((1 : Int32) <<< (x5 &&& 31)))), some (.int (x5 + (1 : Int32)))]) (And.intro rfl (And.intro rfl (And.intro rfl (And.intro rfl (And.intro rfl (And.intro rfl trivial)))))) (hc ((x4 ||| ((1 : Int32) <<< (x5 &&& 31))), (x5 + (1 : Int32)), q3.2) rfl)
set_option maxRecDepth 100000 in
theorem zH_whatMayCome_69_16_l16_ok (l : Nat)  (x2 : Int32) (x3 : Int32) (J : iq_J) (X : iq_X) {n : Nat} {v : Int32 × Int32 × iq_I} {w : Int32 × iq_I} (h : zH_whatMayCome_69_16_l16 x2 x3 n v = some w) (r : iq_R × iq_M) (hq : iq_Gg 3 19 (70, [none, none, none, none, some (.int w.1), none], [], (iq_sh l, w.2, J, X)) r) : iq_Gg 3 19 (16, [some (.ref 69), some (.ref 16), some (.int x2), some (.int x3), some (.int v.1), some (.int v.2.1)], [], (iq_sh l, v.2.2, J, X)) r :=
  iq_lp_ok (σ := fun v => (16, [some (.ref 69), some (.ref 16), some (.int x2), some (.int x3), some (.int v.1), some (.int v.2.1)], [], (iq_sh l, v.2.2, J, X))) (Q := fun w r => iq_Gg 3 19 (70, [none, none, none, none, some (.int w.1), none], [], (iq_sh l, w.2, J, X)) r) (fun v q hv r h1 h2 => zH_whatMayCome_69_16_l16_bok l x2 x3 J X v.1 v.2.1 v.2.2 hv r h1 h2) h r hq
set_option maxRecDepth 100000 in
theorem zH_whatMayCome_69_16_ok (l : Nat)  (x2 : Int32) (I : iq_I) (J : iq_J) (X : iq_X) {q : Int32 × iq_I} (h : zH_whatMayCome_69_16 x2 I = some q) : iq_Cc 4 19 [.ref 69, .ref 16, .int x2] (iq_sh l, I, J, X) (.inl (some (.int q.1)), (iq_sh l, q.2, J, X)) := by
  refine iq_Cc_of (L := [some (.ref 69), some (.ref 16), some (.int x2), none, none, none]) rfl rfl ?_
  unfold zH_whatMayCome_69_16 at h
  refine iq_G_go (k := 4) (σ' := (6, [some (.ref 69), some (.ref 16), some (.int x2), none, none, none], [.int x2, .ref 16, .ref 4], (iq_sh l, I, J, X))) (fun _ => rfl) ?_
  obtain ⟨q1, hq1, h⟩ := iq_bnd h
  refine iq_G_call (σ' := (9, [some (.ref 69), some (.ref 16), some (.int x2), none, none, none], [.int q1], (iq_sh l, I, J, X))) (fun _ => rfl) (zU_stateOf_4_16_ok l x2 I J X hq1) rfl rfl ?_
  refine iq_G_go (k := 5) (σ' := (16, [some (.ref 69), some (.ref 16), some (.int x2), some (.int q1), some (.int (0 : Int32)), some (.int (0 : Int32))], [], (iq_sh l, I, J, X))) (fun _ => rfl) ?_
  obtain ⟨w4, hw4, h⟩ := iq_bnd h
  refine iq_G_fg (L := [some (.ref 69), some (.ref 16), some (.int x2), some (.int q1), some (.int (0 : Int32)), some (.int (0 : Int32))]) (And.intro rfl (And.intro rfl (And.intro rfl (And.intro rfl (And.intro rfl (And.intro rfl trivial)))))) ?_
  refine zH_whatMayCome_69_16_l16_ok l x2 q1 J X hw4 _ ?_
  show iq_Gg 3 19 (70, [none, none, none, none, some (.int w4.1), none], [], (iq_sh l, w4.2, J, X)) _
  refine iq_G_go (k := 1) (σ' := (72, [none, none, none, none, some (.int w4.1), none], [.int w4.1], (iq_sh l, w4.2, J, X))) (fun _ => rfl) ?_
  cases h
  exact iq_G_ret (fun _ => rfl)
set_option maxRecDepth 100000 in
theorem zH_weigh_69_16_63_ok (l : Nat)  (x2 : Int32) (x3 : Int32) (x4 : Int32) (x5 : Int32) (x6 : Int32) (x7 : Int32) (I : iq_I) (J : iq_J) (X : iq_X)  {q : (Int32 × Int32 × iq_I) ⊕ (Int32 × iq_I)} (h : zH_weigh_69_16_63 x2 x3 x4 x5 x6 x7 I = some q) (r : iq_R × iq_M) (hc : ∀ v, q = .inl v → iq_Gg 4 24 (14, [some (.ref 69), some (.ref 16), some (.int x2), some (.int x3), some (.int x4), some (.int v.1), some (.int v.2.1), none], [], (iq_sh l, v.2.2, J, X)) r) (hx : ∀ w, q = .inr w → iq_Gg 4 24 (99, [none, none, none, none, none, some (.int w.1), none, none], [], (iq_sh l, w.2, J, X)) r) : iq_Gg 4 24 (63, [some (.ref 69), some (.ref 16), some (.int x2), some (.int x3), some (.int x4), some (.int x5), some (.int x6), some (.int x7)], [], (iq_sh l, I, J, X)) r := by
  unfold zH_weigh_69_16_63 at h
  refine iq_G_go (k := 8) (σ' := (80, [some (.ref 69), some (.ref 16), some (.int x2), some (.int x3), some (.int x4), some (.int x5), some (.int x6), some (.int x7)], [.int (ir_max (0 : Int32) (ir_min (99 : Int32) x7)), .int x6, .ref 71], (iq_sh l, I, J, X))) (fun _ => rfl) ?_
  obtain ⟨hc_, h⟩ := iq_itn h
  refine iq_G_pos (c := iq_in x6 14) (σ1 := (81, [some (.ref 69), some (.ref 16), some (.int x2), some (.int x3), some (.int x4), some (.int x5), some (.int x6), some (.int x7)], [], (iq_sh l, (iq_upI I 71 (Int32.toNatClampNeg x6) (ir_max (0 : Int32) (ir_min (99 : Int32) x7))), J, X))) (fun _ => rfl) hc_ ?_
  obtain ⟨I2, eI2, h⟩ := ir_letG h
  rw [← eI2]
  clear eI2
  refine iq_G_go (k := 4) (σ' := (89, [some (.ref 69), some (.ref 16), some (.int x2), some (.int x3), some (.int x4), some (.int x5), some (.int x6), some (.int x7)], [.int x6, .ref 71, .int x5], (iq_sh l, I2, J, X))) (fun _ => rfl) ?_
  obtain ⟨hc_, h⟩ := iq_itn h
  refine iq_G_pos (c := iq_in x6 14) (σ1 := (90, [some (.ref 69), some (.ref 16), some (.int x2), some (.int x3), some (.int x4), some (.int x5), some (.int x6), some (.int x7)], [.int (I2 71 (Int32.toNatClampNeg x6)), .int x5], (iq_sh l, I2, J, X))) (fun _ => rfl) hc_ ?_
  refine iq_G_go (k := 4) (σ' := (14, [some (.ref 69), some (.ref 16), some (.int x2), some (.int x3), some (.int x4), some (.int (x5 + (I2 71 (Int32.toNatClampNeg x6)))), some (.int (x6 + (1 : Int32))), some (.int x7)], [], (iq_sh l, I2, J, X))) (fun _ => rfl) ?_
  cases h
  exact iq_G_fg (L := [some (.ref 69), some (.ref 16), some (.int x2), some (.int x3), some (.int x4), some (.int (x5 + (I2 71 (Int32.toNatClampNeg x6)))), some (.int (x6 + (1 : Int32))), none]) (And.intro rfl (And.intro rfl (And.intro rfl (And.intro rfl (And.intro rfl (And.intro rfl (And.intro rfl trivial))))))) (hc ((x5 + (I2 71 (Int32.toNatClampNeg x6))), (x6 + (1 : Int32)), I2) rfl)
set_option maxRecDepth 100000 in
theorem zH_weigh_69_16_l14_bok (l : Nat)  (x2 : Int32) (x3 : Int32) (x4 : Int32) (J : iq_J) (X : iq_X) (x5 : Int32) (x6 : Int32) (I : iq_I) {q : (Int32 × Int32 × iq_I) ⊕ (Int32 × iq_I)} (h : zH_weigh_69_16_l14_b x2 x3 x4 x5 x6 I = some q) (r : iq_R × iq_M) (hc : ∀ v, q = .inl v → iq_Gg 4 24 (14, [some (.ref 69), some (.ref 16), some (.int x2), some (.int x3), some (.int x4), some (.int v.1), some (.int v.2.1), none], [], (iq_sh l, v.2.2, J, X)) r) (hx : ∀ w, q = .inr w → iq_Gg 4 24 (99, [none, none, none, none, none, some (.int w.1), none, none], [], (iq_sh l, w.2, J, X)) r) : iq_Gg 4 24 (14, [some (.ref 69), some (.ref 16), some (.int x2), some (.int x3), some (.int x4), some (.int x5), some (.int x6), none], [], (iq_sh l, I, J, X)) r := by
  unfold zH_weigh_69_16_l14_b at h
  refine iq_G_go (k := 2) (σ' := (18, [some (.ref 69), some (.ref 16), some (.int x2), some (.int x3), some (.int x4), some (.int x5), some (.int x6), none], [.int (14 : Int32), .int x6], (iq_sh l, I, J, X))) (fun _ => rfl) ?_
  rcases iq_ite h with ⟨hc_, h⟩ | ⟨hc_, h⟩
  · refine iq_G_pos (c := (14 : Int32) ≤ x6) (σ1 := (99, [some (.ref 69), some (.ref 16), some (.int x2), some (.int x3), some (.int x4), some (.int x5), some (.int x6), none], [], (iq_sh l, I, J, X))) (fun _ => rfl) hc_ ?_
    cases h
    exact iq_G_fg (L := [none, none, none, none, none, some (.int x5), none, none]) (And.intro rfl trivial) (hx (x5, I) rfl)
  · refine iq_G_neg (c := (14 : Int32) ≤ x6) (σ1 := (21, [some (.ref 69), some (.ref 16), some (.int x2), some (.int x3), some (.int x4), some (.int x5), some (.int x6), none], [], (iq_sh l, I, J, X))) (fun _ => rfl) hc_ ?_
    refine iq_G_go (k := 7) (σ' := (31, [some (.ref 69), some (.ref 16), some (.int x2), some (.int x3), some (.int x4), some (.int x5), some (.int x6), some (.int (0 : Int32))], [.int ((x4 >>> (x6 &&& 31)) &&& (1 : Int32))], (iq_sh l, I, J, X))) (fun _ => rfl) ?_
    rcases iq_ite h with ⟨hc_, h⟩ | ⟨hc_, h⟩
    · refine iq_G_pos (c := ((x4 >>> (x6 &&& 31)) &&& (1 : Int32)) = 0) (σ1 := (63, [some (.ref 69), some (.ref 16), some (.int x2), some (.int x3), some (.int x4), some (.int x5), some (.int x6), some (.int (0 : Int32))], [], (iq_sh l, I, J, X))) (fun _ => rfl) hc_ ?_
      exact iq_G_fg (L := [some (.ref 69), some (.ref 16), some (.int x2), some (.int x3), some (.int x4), some (.int x5), some (.int x6), some (.int (0 : Int32))]) (And.intro rfl (And.intro rfl (And.intro rfl (And.intro rfl (And.intro rfl (And.intro rfl (And.intro rfl (And.intro rfl trivial)))))))) (zH_weigh_69_16_63_ok l x2 x3 x4 x5 x6 (0 : Int32) I J X  h r hc hx)
    · refine iq_G_neg (c := ((x4 >>> (x6 &&& 31)) &&& (1 : Int32)) = 0) (σ1 := (34, [some (.ref 69), some (.ref 16), some (.int x2), some (.int x3), some (.int x4), some (.int x5), some (.int x6), some (.int (0 : Int32))], [], (iq_sh l, I, J, X))) (fun _ => rfl) hc_ ?_
      refine iq_G_go (k := 6) (σ' := (43, [some (.ref 69), some (.ref 16), some (.int x2), some (.int x3), some (.int x4), some (.int x5), some (.int x6), some (.int (0 : Int32))], [.int (I 16 1), .int x6, .int x3, .ref 16, .ref 69], (iq_sh l, I, J, X))) (fun _ => rfl) ?_
      obtain ⟨q3, hq3, h⟩ := iq_bnd h
      refine iq_G_call (σ' := (46, [some (.ref 69), some (.ref 16), some (.int x2), some (.int x3), some (.int x4), some (.int x5), some (.int x6), some (.int (0 : Int32))], [], (iq_sh l, q3, J, X))) (fun _ => rfl) (zH_fillValues_69_16_ok l x3 x6 (I 16 1) I J X hq3) rfl rfl ?_
      refine iq_G_go (k := 6) (σ' := (58, [some (.ref 69), some (.ref 16), some (.int x2), some (.int x3), some (.int x4), some (.int x5), some (.int x6), some (.int (0 : Int32))], [.ref 70, .int x2, .ref 8], (iq_sh l, q3, J, X))) (fun _ => rfl) ?_
      obtain ⟨q4, hq4, h⟩ := iq_bnd h
      refine iq_G_call (σ' := (61, [some (.ref 69), some (.ref 16), some (.int x2), some (.int x3), some (.int x4), some (.int x5), some (.int x6), some (.int (0 : Int32))], [.int q4.1], (iq_sh l, q4.2, J, X))) (fun _ => rfl) (zE_give_ok l x2 q3 J X hq4) rfl rfl ?_
      refine iq_G_go (k := 1) (σ' := (63, [some (.ref 69), some (.ref 16), some (.int x2), some (.int x3), some (.int x4), some (.int x5), some (.int x6), some (.int q4.1)], [], (iq_sh l, q4.2, J, X))) (fun _ => rfl) ?_
      exact iq_G_fg (L := [some (.ref 69), some (.ref 16), some (.int x2), some (.int x3), some (.int x4), some (.int x5), some (.int x6), some (.int q4.1)]) (And.intro rfl (And.intro rfl (And.intro rfl (And.intro rfl (And.intro rfl (And.intro rfl (And.intro rfl (And.intro rfl trivial)))))))) (zH_weigh_69_16_63_ok l x2 x3 x4 x5 x6 q4.1 q4.2 J X  h r hc hx)
set_option maxRecDepth 100000 in
theorem zH_weigh_69_16_l14_ok (l : Nat)  (x2 : Int32) (x3 : Int32) (x4 : Int32) (J : iq_J) (X : iq_X) {n : Nat} {v : Int32 × Int32 × iq_I} {w : Int32 × iq_I} (h : zH_weigh_69_16_l14 x2 x3 x4 n v = some w) (r : iq_R × iq_M) (hq : iq_Gg 4 24 (99, [none, none, none, none, none, some (.int w.1), none, none], [], (iq_sh l, w.2, J, X)) r) : iq_Gg 4 24 (14, [some (.ref 69), some (.ref 16), some (.int x2), some (.int x3), some (.int x4), some (.int v.1), some (.int v.2.1), none], [], (iq_sh l, v.2.2, J, X)) r :=
  iq_lp_ok (σ := fun v => (14, [some (.ref 69), some (.ref 16), some (.int x2), some (.int x3), some (.int x4), some (.int v.1), some (.int v.2.1), none], [], (iq_sh l, v.2.2, J, X))) (Q := fun w r => iq_Gg 4 24 (99, [none, none, none, none, none, some (.int w.1), none, none], [], (iq_sh l, w.2, J, X)) r) (fun v q hv r h1 h2 => zH_weigh_69_16_l14_bok l x2 x3 x4 J X v.1 v.2.1 v.2.2 hv r h1 h2) h r hq
set_option maxRecDepth 100000 in
theorem zH_weigh_69_16_ok (l : Nat)  (x2 : Int32) (x3 : Int32) (I : iq_I) (J : iq_J) (X : iq_X) {q : Int32 × iq_I} (h : zH_weigh_69_16 x2 x3 I = some q) : iq_Cc 5 24 [.ref 69, .ref 16, .int x2, .int x3] (iq_sh l, I, J, X) (.inl (some (.int q.1)), (iq_sh l, q.2, J, X)) := by
  refine iq_Cc_of (L := [some (.ref 69), some (.ref 16), some (.int x2), some (.int x3), none, none, none, none]) rfl rfl ?_
  unfold zH_weigh_69_16 at h
  refine iq_G_go (k := 3) (σ' := (3, [some (.ref 69), some (.ref 16), some (.int x2), some (.int x3), none, none, none, none], [.int x3, .ref 16, .ref 69], (iq_sh l, I, J, X))) (fun _ => rfl) ?_
  obtain ⟨q1, hq1, h⟩ := iq_bnd h
  refine iq_G_call (σ' := (6, [some (.ref 69), some (.ref 16), some (.int x2), some (.int x3), none, none, none, none], [.int q1.1], (iq_sh l, q1.2, J, X))) (fun _ => rfl) (zH_whatMayCome_69_16_ok l x3 I J X hq1) rfl rfl ?_
  refine iq_G_go (k := 5) (σ' := (14, [some (.ref 69), some (.ref 16), some (.int x2), some (.int x3), some (.int q1.1), some (.int (0 : Int32)), some (.int (0 : Int32)), none], [], (iq_sh l, q1.2, J, X))) (fun _ => rfl) ?_
  obtain ⟨w5, hw5, h⟩ := iq_bnd h
  refine iq_G_fg (L := [some (.ref 69), some (.ref 16), some (.int x2), some (.int x3), some (.int q1.1), some (.int (0 : Int32)), some (.int (0 : Int32)), none]) (And.intro rfl (And.intro rfl (And.intro rfl (And.intro rfl (And.intro rfl (And.intro rfl (And.intro rfl trivial))))))) ?_
  refine zH_weigh_69_16_l14_ok l x2 x3 q1.1 J X hw5 _ ?_
  show iq_Gg 4 24 (99, [none, none, none, none, none, some (.int w5.1), none, none], [], (iq_sh l, w5.2, J, X)) _
  refine iq_G_go (k := 1) (σ' := (101, [none, none, none, none, none, some (.int w5.1), none, none], [.int w5.1], (iq_sh l, w5.2, J, X))) (fun _ => rfl) ?_
  cases h
  exact iq_G_ret (fun _ => rfl)
set_option maxRecDepth 100000 in
theorem zH_weightOf_ok (l : Nat)  (x1 : Int32) (I : iq_I) (J : iq_J) (X : iq_X) {q : Int32} (h : zH_weightOf x1 I = some q) : iq_Cc 1 25 [.ref 69, .int x1] (iq_sh l, I, J, X) (.inl (some (.int q)), (iq_sh l, I, J, X)) := by
  refine iq_Cc_of (L := [some (.ref 69), some (.int x1)]) rfl rfl ?_
  unfold zH_weightOf at h
  refine iq_G_go (k := 1) (σ' := (1, [some (.ref 69), some (.int x1)], [.int x1], (iq_sh l, I, J, X))) (fun _ => rfl) ?_
  rcases iq_ite h with ⟨hc_, h⟩ | ⟨hc_, h⟩
  · refine iq_G_pos (c := x1 < 0) (σ1 := (10, [some (.ref 69), some (.int x1)], [], (iq_sh l, I, J, X))) (fun _ => rfl) hc_ ?_
    refine iq_G_go (k := 2) (σ' := (20, [some (.ref 69), some (.int x1)], [.int (0 : Int32)], (iq_sh l, I, J, X))) (fun _ => rfl) ?_
    cases h
    exact iq_G_ret (fun _ => rfl)
  · refine iq_G_neg (c := x1 < 0) (σ1 := (4, [some (.ref 69), some (.int x1)], [], (iq_sh l, I, J, X))) (fun _ => rfl) hc_ ?_
    refine iq_G_go (k := 2) (σ' := (7, [some (.ref 69), some (.int x1)], [.int (14 : Int32), .int x1], (iq_sh l, I, J, X))) (fun _ => rfl) ?_
    rcases iq_ite h with ⟨hc_, h⟩ | ⟨hc_, h⟩
    · refine iq_G_pos (c := x1 < (14 : Int32)) (σ1 := (14, [some (.ref 69), some (.int x1)], [], (iq_sh l, I, J, X))) (fun _ => rfl) hc_ ?_
      refine iq_G_go (k := 3) (σ' := (19, [some (.ref 69), some (.int x1)], [.int x1, .ref 71], (iq_sh l, I, J, X))) (fun _ => rfl) ?_
      obtain ⟨hc_, h⟩ := iq_itn h
      refine iq_G_pos (c := iq_in x1 14) (σ1 := (20, [some (.ref 69), some (.int x1)], [.int (I 71 (Int32.toNatClampNeg x1))], (iq_sh l, I, J, X))) (fun _ => rfl) hc_ ?_
      cases h
      exact iq_G_ret (fun _ => rfl)
    · refine iq_G_neg (c := x1 < (14 : Int32)) (σ1 := (10, [some (.ref 69), some (.int x1)], [], (iq_sh l, I, J, X))) (fun _ => rfl) hc_ ?_
      refine iq_G_go (k := 2) (σ' := (20, [some (.ref 69), some (.int x1)], [.int (0 : Int32)], (iq_sh l, I, J, X))) (fun _ => rfl) ?_
      cases h
      exact iq_G_ret (fun _ => rfl)
set_option maxRecDepth 100000 in
theorem zH_multiplyOdds_l12_bok (l : Nat)  (x2 : Int32) (X : iq_X) (x3 : Int32) (I : iq_I) (J : iq_J) {q : (Int32 × iq_I × iq_J) ⊕ (iq_I × iq_J)} (h : zH_multiplyOdds_l12_b x2 x3 I J = some q) (r : iq_R × iq_M) (hc : ∀ v, q = .inl v → iq_Gg 5 30 (12, [some (.ref 69), some (.ref 16), some (.int x2), some (.int v.1), none], [], (iq_sh l, v.2.1, v.2.2, X)) r) (hx : ∀ w, q = .inr w → iq_Gg 5 30 (77, [some (.ref 69), none, none, none, none], [], (iq_sh l, w.1, w.2, X)) r) : iq_Gg 5 30 (12, [some (.ref 69), some (.ref 16), some (.int x2), some (.int x3), none], [], (iq_sh l, I, J, X)) r := by
  unfold zH_multiplyOdds_l12_b at h
  refine iq_G_go (k := 3) (σ' := (17, [some (.ref 69), some (.ref 16), some (.int x2), some (.int x3), none], [.int (I 16 2), .int x3], (iq_sh l, I, J, X))) (fun _ => rfl) ?_
  rcases iq_ite h with ⟨hc_, h⟩ | ⟨hc_, h⟩
  · refine iq_G_pos (c := (I 16 2) ≤ x3) (σ1 := (77, [some (.ref 69), some (.ref 16), some (.int x2), some (.int x3), none], [], (iq_sh l, I, J, X))) (fun _ => rfl) hc_ ?_
    cases h
    exact iq_G_fg (L := [some (.ref 69), none, none, none, none]) (And.intro rfl trivial) (hx (I, J) rfl)
  · refine iq_G_neg (c := (I 16 2) ≤ x3) (σ1 := (20, [some (.ref 69), some (.ref 16), some (.int x2), some (.int x3), none], [], (iq_sh l, I, J, X))) (fun _ => rfl) hc_ ?_
    refine iq_G_go (k := 2) (σ' := (22, [some (.ref 69), some (.ref 16), some (.int x2), some (.int x3), none], [.int (3 : Int32), .int x3], (iq_sh l, I, J, X))) (fun _ => rfl) ?_
    rcases iq_ite h with ⟨hc_, h⟩ | ⟨hc_, h⟩
    · refine iq_G_pos (c := (3 : Int32) ≤ x3) (σ1 := (77, [some (.ref 69), some (.ref 16), some (.int x2), some (.int x3), none], [], (iq_sh l, I, J, X))) (fun _ => rfl) hc_ ?_
      cases h
      exact iq_G_fg (L := [some (.ref 69), none, none, none, none]) (And.intro rfl trivial) (hx (I, J) rfl)
    · refine iq_G_neg (c := (3 : Int32) ≤ x3) (σ1 := (25, [some (.ref 69), some (.ref 16), some (.int x2), some (.int x3), none], [], (iq_sh l, I, J, X))) (fun _ => rfl) hc_ ?_
      refine iq_G_go (k := 6) (σ' := (33, [some (.ref 69), some (.ref 16), some (.int x2), some (.int x3), none], [.int x3, .ref 25, .int x2, .ref 16, .ref 69], (iq_sh l, I, J, X))) (fun _ => rfl) ?_
      obtain ⟨hc_, h⟩ := iq_itn h
      refine iq_G_pos (c := iq_in x3 3) (σ1 := (34, [some (.ref 69), some (.ref 16), some (.int x2), some (.int x3), none], [.int (I 25 (Int32.toNatClampNeg x3)), .int x2, .ref 16, .ref 69], (iq_sh l, I, J, X))) (fun _ => rfl) hc_ ?_
      obtain ⟨q3, hq3, h⟩ := iq_bnd h
      refine iq_G_call (σ' := (37, [some (.ref 69), some (.ref 16), some (.int x2), some (.int x3), none], [.int q3.1], (iq_sh l, q3.2, J, X))) (fun _ => rfl) (zH_weigh_69_16_ok l x2 (I 25 (Int32.toNatClampNeg x3)) I J X hq3) rfl rfl ?_
      refine iq_G_go (k := 8) (σ' := (50, [some (.ref 69), some (.ref 16), some (.int x2), some (.int x3), some (.int q3.1)], [.int x3, .ref 26, .ref 69, .long (J 69 3), .ref 69], (iq_sh l, q3.2, J, X))) (fun _ => rfl) ?_
      obtain ⟨hc_, h⟩ := iq_itn h
      refine iq_G_pos (c := iq_in x3 3) (σ1 := (51, [some (.ref 69), some (.ref 16), some (.int x2), some (.int x3), some (.int q3.1)], [.int (q3.2 26 (Int32.toNatClampNeg x3)), .ref 69, .long (J 69 3), .ref 69], (iq_sh l, q3.2, J, X))) (fun _ => rfl) hc_ ?_
      obtain ⟨q4, hq4, h⟩ := iq_bnd h
      refine iq_G_call (σ' := (54, [some (.ref 69), some (.ref 16), some (.int x2), some (.int x3), some (.int q3.1)], [.int q4, .long (J 69 3), .ref 69], (iq_sh l, q3.2, J, X))) (fun _ => rfl) (zH_weightOf_ok l (q3.2 26 (Int32.toNatClampNeg x3)) q3.2 J X hq4) rfl rfl ?_
      refine iq_G_go (k := 2) (σ' := (56, [some (.ref 69), some (.ref 16), some (.int x2), some (.int x3), some (.int q3.1)], [.long ((J 69 3) * (Int32.toInt64 q4)), .ref 69], (iq_sh l, q3.2, J, X))) (fun _ => rfl) ?_
      refine iq_G_go (k := 1) (σ' := (59, [some (.ref 69), some (.ref 16), some (.int x2), some (.int x3), some (.int q3.1)], [], (iq_sh l, q3.2, (iq_upJ J 69 3 ((J 69 3) * (Int32.toInt64 q4))), X))) (fun _ => rfl) ?_
      obtain ⟨J5, eJ5, h⟩ := ir_letG h
      rw [← eJ5]
      clear eJ5
      refine iq_G_go (k := 6) (σ' := (68, [some (.ref 69), some (.ref 16), some (.int x2), some (.int x3), some (.int q3.1)], [.long ((J5 69 4) * (Int32.toInt64 q3.1)), .ref 69], (iq_sh l, q3.2, J5, X))) (fun _ => rfl) ?_
      refine iq_G_go (k := 1) (σ' := (71, [some (.ref 69), some (.ref 16), some (.int x2), some (.int x3), some (.int q3.1)], [], (iq_sh l, q3.2, (iq_upJ J5 69 4 ((J5 69 4) * (Int32.toInt64 q3.1))), X))) (fun _ => rfl) ?_
      obtain ⟨J6, eJ6, h⟩ := ir_letG h
      rw [← eJ6]
      clear eJ6
      refine iq_G_go (k := 2) (σ' := (12, [some (.ref 69), some (.ref 16), some (.int x2), some (.int (x3 + (1 : Int32))), some (.int q3.1)], [], (iq_sh l, q3.2, J6, X))) (fun _ => rfl) ?_
      cases h
      exact iq_G_fg (L := [some (.ref 69), some (.ref 16), some (.int x2), some (.int (x3 + (1 : Int32))), none]) (And.intro rfl (And.intro rfl (And.intro rfl (And.intro rfl trivial)))) (hc ((x3 + (1 : Int32)), q3.2, J6) rfl)
set_option maxRecDepth 100000 in
theorem zH_multiplyOdds_l12_ok (l : Nat)  (x2 : Int32) (X : iq_X) {n : Nat} {v : Int32 × iq_I × iq_J} {w : iq_I × iq_J} (h : zH_multiplyOdds_l12 x2 n v = some w) (r : iq_R × iq_M) (hq : iq_Gg 5 30 (77, [some (.ref 69), none, none, none, none], [], (iq_sh l, w.1, w.2, X)) r) : iq_Gg 5 30 (12, [some (.ref 69), some (.ref 16), some (.int x2), some (.int v.1), none], [], (iq_sh l, v.2.1, v.2.2, X)) r :=
  iq_lp_ok (σ := fun v => (12, [some (.ref 69), some (.ref 16), some (.int x2), some (.int v.1), none], [], (iq_sh l, v.2.1, v.2.2, X))) (Q := fun w r => iq_Gg 5 30 (77, [some (.ref 69), none, none, none, none], [], (iq_sh l, w.1, w.2, X)) r) (fun v q hv r h1 h2 => zH_multiplyOdds_l12_bok l x2 X v.1 v.2.1 v.2.2 hv r h1 h2) h r hq
set_option maxRecDepth 100000 in
theorem zH_multiplyOdds_77_ok (l : Nat)   (I : iq_I) (J : iq_J) (X : iq_X)  {q : Int32 × iq_I × iq_J} (h : zH_multiplyOdds_77 I J = some q)  : iq_Gg 5 30 (77, [some (.ref 69), none, none, none, none], [], (iq_sh l, I, J, X)) (.inl (some (.int q.1)), (iq_sh l, q.2.1, q.2.2, X)) := by
  unfold zH_multiplyOdds_77 at h
  refine iq_G_go (k := 4) (σ' := (83, [some (.ref 69), none, none, none, none], [.int (lg_cmp (J 69 3) (0 : Int64))], (iq_sh l, I, J, X))) (fun _ => rfl) ?_
  rcases iq_ite h with ⟨hc_, h⟩ | ⟨hc_, h⟩
  · refine iq_G_pos (c := (lg_cmp (J 69 3) (0 : Int64)) ≤ 0) (σ1 := (90, [some (.ref 69), none, none, none, none], [], (iq_sh l, I, J, X))) (fun _ => rfl) hc_ ?_
    refine iq_G_go (k := 1) (σ' := (91, [some (.ref 69), none, none, none, none], [.int (0 : Int32)], (iq_sh l, I, J, X))) (fun _ => rfl) ?_
    cases h
    exact iq_G_ret (fun _ => rfl)
  · refine iq_G_neg (c := (lg_cmp (J 69 3) (0 : Int64)) ≤ 0) (σ1 := (86, [some (.ref 69), none, none, none, none], [], (iq_sh l, I, J, X))) (fun _ => rfl) hc_ ?_
    refine iq_G_go (k := 2) (σ' := (91, [some (.ref 69), none, none, none, none], [.int (1 : Int32)], (iq_sh l, I, J, X))) (fun _ => rfl) ?_
    cases h
    exact iq_G_ret (fun _ => rfl)
set_option maxRecDepth 100000 in
theorem zH_multiplyOdds_ok (l : Nat)  (x2 : Int32) (I : iq_I) (J : iq_J) (X : iq_X) {q : Int32 × iq_I × iq_J} (h : zH_multiplyOdds x2 I J = some q) : iq_Cc 6 30 [.ref 69, .ref 16, .int x2] (iq_sh l, I, J, X) (.inl (some (.int q.1)), (iq_sh l, q.2.1, q.2.2, X)) := by
  refine iq_Cc_of (L := [some (.ref 69), some (.ref 16), some (.int x2), none, none]) rfl rfl ?_
  unfold zH_multiplyOdds at h
  refine iq_G_go (k := 2) (σ' := (2, [some (.ref 69), some (.ref 16), some (.int x2), none, none], [.long (1 : Int64), .ref 69], (iq_sh l, I, J, X))) (fun _ => rfl) ?_
  refine iq_G_go (k := 1) (σ' := (5, [some (.ref 69), some (.ref 16), some (.int x2), none, none], [], (iq_sh l, I, (iq_upJ J 69 3 (1 : Int64)), X))) (fun _ => rfl) ?_
  obtain ⟨J1, eJ1, h⟩ := ir_letG h
  rw [← eJ1]
  clear eJ1
  refine iq_G_go (k := 2) (σ' := (7, [some (.ref 69), some (.ref 16), some (.int x2), none, none], [.long (1 : Int64), .ref 69], (iq_sh l, I, J1, X))) (fun _ => rfl) ?_
  refine iq_G_go (k := 1) (σ' := (10, [some (.ref 69), some (.ref 16), some (.int x2), none, none], [], (iq_sh l, I, (iq_upJ J1 69 4 (1 : Int64)), X))) (fun _ => rfl) ?_
  obtain ⟨J2, eJ2, h⟩ := ir_letG h
  rw [← eJ2]
  clear eJ2
  refine iq_G_go (k := 2) (σ' := (12, [some (.ref 69), some (.ref 16), some (.int x2), some (.int (0 : Int32)), none], [], (iq_sh l, I, J2, X))) (fun _ => rfl) ?_
  obtain ⟨w7, hw7, h⟩ := iq_bnd h
  refine iq_G_fg (L := [some (.ref 69), some (.ref 16), some (.int x2), some (.int (0 : Int32)), none]) (And.intro rfl (And.intro rfl (And.intro rfl (And.intro rfl trivial)))) ?_
  refine zH_multiplyOdds_l12_ok l x2 X hw7 _ ?_
  show iq_Gg 5 30 (77, [some (.ref 69), none, none, none, none], [], (iq_sh l, w7.1, w7.2, X)) _
  exact iq_G_fg (L := [some (.ref 69), none, none, none, none]) (And.intro rfl trivial) (zH_multiplyOdds_77_ok l w7.1 w7.2 X  h )
set_option maxRecDepth 100000 in
theorem zH_whoCan_l4_bok (l : Nat)   (X : iq_X) (x2 : Int32) (x3 : Int32) (I : iq_I) (J : iq_J) {q : (Int32 × Int32 × iq_I × iq_J) ⊕ (Int32 × iq_I × iq_J)} (h : zH_whoCan_l4_b  x2 x3 I J = some q) (r : iq_R × iq_M) (hc : ∀ v, q = .inl v → iq_Gg 6 28 (4, [some (.ref 69), some (.ref 16), some (.int v.1), some (.int v.2.1)], [], (iq_sh l, v.2.2.1, v.2.2.2, X)) r) (hx : ∀ w, q = .inr w → iq_Gg 6 28 (39, [none, none, some (.int w.1), none], [], (iq_sh l, w.2.1, w.2.2, X)) r) : iq_Gg 6 28 (4, [some (.ref 69), some (.ref 16), some (.int x2), some (.int x3)], [], (iq_sh l, I, J, X)) r := by
  unfold zH_whoCan_l4_b at h
  refine iq_G_go (k := 5) (σ' := (15, [some (.ref 69), some (.ref 16), some (.int x2), some (.int x3)], [.int (I 8 0), .int x3], (iq_sh l, I, J, X))) (fun _ => rfl) ?_
  rcases iq_ite h with ⟨hc_, h⟩ | ⟨hc_, h⟩
  · refine iq_G_pos (c := (I 8 0) ≤ x3) (σ1 := (39, [some (.ref 69), some (.ref 16), some (.int x2), some (.int x3)], [], (iq_sh l, I, J, X))) (fun _ => rfl) hc_ ?_
    cases h
    exact iq_G_fg (L := [none, none, some (.int x2), none]) (And.intro rfl trivial) (hx (x2, I, J) rfl)
  · refine iq_G_neg (c := (I 8 0) ≤ x3) (σ1 := (18, [some (.ref 69), some (.ref 16), some (.int x2), some (.int x3)], [], (iq_sh l, I, J, X))) (fun _ => rfl) hc_ ?_
    refine iq_G_go (k := 3) (σ' := (21, [some (.ref 69), some (.ref 16), some (.int x2), some (.int x3)], [.int x3, .ref 16, .ref 69], (iq_sh l, I, J, X))) (fun _ => rfl) ?_
    obtain ⟨q1, hq1, h⟩ := iq_bnd h
    refine iq_G_call (σ' := (24, [some (.ref 69), some (.ref 16), some (.int x2), some (.int x3)], [.int q1.1], (iq_sh l, q1.2.1, q1.2.2, X))) (fun _ => rfl) (zH_multiplyOdds_ok l x3 I J X hq1) rfl rfl ?_
    rcases iq_ite h with ⟨hc_, h⟩ | ⟨hc_, h⟩
    · refine iq_G_pos (c := q1.1 = 0) (σ1 := (33, [some (.ref 69), some (.ref 16), some (.int x2), some (.int x3)], [], (iq_sh l, q1.2.1, q1.2.2, X))) (fun _ => rfl) hc_ ?_
      refine iq_G_go (k := 2) (σ' := (4, [some (.ref 69), some (.ref 16), some (.int x2), some (.int (x3 + (1 : Int32)))], [], (iq_sh l, q1.2.1, q1.2.2, X))) (fun _ => rfl) ?_
      cases h
      exact iq_G_fg (L := [some (.ref 69), some (.ref 16), some (.int x2), some (.int (x3 + (1 : Int32)))]) (And.intro rfl (And.intro rfl (And.intro rfl (And.intro rfl trivial)))) (hc (x2, (x3 + (1 : Int32)), q1.2.1, q1.2.2) rfl)
    · refine iq_G_neg (c := q1.1 = 0) (σ1 := (27, [some (.ref 69), some (.ref 16), some (.int x2), some (.int x3)], [], (iq_sh l, q1.2.1, q1.2.2, X))) (fun _ => rfl) hc_ ?_
      refine iq_G_go (k := 8) (σ' := (4, [some (.ref 69), some (.ref 16), some (.int (x2 ||| ((1 : Int32) <<< (x3 &&& 31)))), some (.int (x3 + (1 : Int32)))], [], (iq_sh l, q1.2.1, q1.2.2, X))) (fun _ => rfl) ?_
      cases h
      exact iq_G_fg (L := [some (.ref 69), some (.ref 16), some (.int (x2 ||| ((1 : Int32) <<< (x3 &&& 31)))), some (.int (x3 + (1 : Int32)))]) (And.intro rfl (And.intro rfl (And.intro rfl (And.intro rfl trivial)))) (hc ((x2 ||| ((1 : Int32) <<< (x3 &&& 31))), (x3 + (1 : Int32)), q1.2.1, q1.2.2) rfl)
set_option maxRecDepth 100000 in
theorem zH_whoCan_l4_ok (l : Nat)   (X : iq_X) {n : Nat} {v : Int32 × Int32 × iq_I × iq_J} {w : Int32 × iq_I × iq_J} (h : zH_whoCan_l4  n v = some w) (r : iq_R × iq_M) (hq : iq_Gg 6 28 (39, [none, none, some (.int w.1), none], [], (iq_sh l, w.2.1, w.2.2, X)) r) : iq_Gg 6 28 (4, [some (.ref 69), some (.ref 16), some (.int v.1), some (.int v.2.1)], [], (iq_sh l, v.2.2.1, v.2.2.2, X)) r :=
  iq_lp_ok (σ := fun v => (4, [some (.ref 69), some (.ref 16), some (.int v.1), some (.int v.2.1)], [], (iq_sh l, v.2.2.1, v.2.2.2, X))) (Q := fun w r => iq_Gg 6 28 (39, [none, none, some (.int w.1), none], [], (iq_sh l, w.2.1, w.2.2, X)) r) (fun v q hv r h1 h2 => zH_whoCan_l4_bok l X v.1 v.2.1 v.2.2.1 v.2.2.2 hv r h1 h2) h r hq
set_option maxRecDepth 100000 in
theorem zH_whoCan_ok (l : Nat)   (I : iq_I) (J : iq_J) (X : iq_X) {q : Int32 × iq_I × iq_J} (h : zH_whoCan I J = some q) : iq_Cc 7 28 [.ref 69, .ref 16] (iq_sh l, I, J, X) (.inl (some (.int q.1)), (iq_sh l, q.2.1, q.2.2, X)) := by
  refine iq_Cc_of (L := [some (.ref 69), some (.ref 16), none, none]) rfl rfl ?_
  unfold zH_whoCan at h
  refine iq_G_go (k := 4) (σ' := (4, [some (.ref 69), some (.ref 16), some (.int (0 : Int32)), some (.int (0 : Int32))], [], (iq_sh l, I, J, X))) (fun _ => rfl) ?_
  obtain ⟨w2, hw2, h⟩ := iq_bnd h
  refine iq_G_fg (L := [some (.ref 69), some (.ref 16), some (.int (0 : Int32)), some (.int (0 : Int32))]) (And.intro rfl (And.intro rfl (And.intro rfl (And.intro rfl trivial)))) ?_
  refine zH_whoCan_l4_ok l X hw2 _ ?_
  show iq_Gg 6 28 (39, [none, none, some (.int w2.1), none], [], (iq_sh l, w2.2.1, w2.2.2, X)) _
  refine iq_G_go (k := 1) (σ' := (40, [none, none, some (.int w2.1), none], [.int w2.1], (iq_sh l, w2.2.1, w2.2.2, X))) (fun _ => rfl) ?_
  cases h
  exact iq_G_ret (fun _ => rfl)
set_option maxRecDepth 100000 in
theorem zH_likeliest_l10_bok (l : Nat)   (X : iq_X) (x2 : Int32) (y3 : Int64) (y5 : Int64) (x7 : Int32) (I : iq_I) (J : iq_J) {q : (Int32 × Int64 × Int64 × Int32 × iq_I × iq_J) ⊕ (Int32 × iq_I × iq_J)} (h : zH_likeliest_l10_b  x2 y3 y5 x7 I J = some q) (r : iq_R × iq_M) (hc : ∀ v, q = .inl v → iq_Gg 6 29 (10, [some (.ref 69), some (.ref 16), some (.int v.1), some (.long v.2.1), none, some (.long v.2.2.1), none, some (.int v.2.2.2.1)], [], (iq_sh l, v.2.2.2.2.1, v.2.2.2.2.2, X)) r) (hx : ∀ w, q = .inr w → iq_Gg 6 29 (72, [none, none, some (.int w.1), none, none, none, none, none], [], (iq_sh l, w.2.1, w.2.2, X)) r) : iq_Gg 6 29 (10, [some (.ref 69), some (.ref 16), some (.int x2), some (.long y3), none, some (.long y5), none, some (.int x7)], [], (iq_sh l, I, J, X)) r := by
  unfold zH_likeliest_l10_b at h
  refine iq_G_go (k := 5) (σ' := (22, [some (.ref 69), some (.ref 16), some (.int x2), some (.long y3), none, some (.long y5), none, some (.int x7)], [.int (I 8 0), .int x7], (iq_sh l, I, J, X))) (fun _ => rfl) ?_
  rcases iq_ite h with ⟨hc_, h⟩ | ⟨hc_, h⟩
  · refine iq_G_pos (c := (I 8 0) ≤ x7) (σ1 := (72, [some (.ref 69), some (.ref 16), some (.int x2), some (.long y3), none, some (.long y5), none, some (.int x7)], [], (iq_sh l, I, J, X))) (fun _ => rfl) hc_ ?_
    cases h
    exact iq_G_fg (L := [none, none, some (.int x2), none, none, none, none, none]) (And.intro rfl trivial) (hx (x2, I, J) rfl)
  · refine iq_G_neg (c := (I 8 0) ≤ x7) (σ1 := (25, [some (.ref 69), some (.ref 16), some (.int x2), some (.long y3), none, some (.long y5), none, some (.int x7)], [], (iq_sh l, I, J, X))) (fun _ => rfl) hc_ ?_
    refine iq_G_go (k := 3) (σ' := (29, [some (.ref 69), some (.ref 16), some (.int x2), some (.long y3), none, some (.long y5), none, some (.int x7)], [.int x7, .ref 16, .ref 69], (iq_sh l, I, J, X))) (fun _ => rfl) ?_
    obtain ⟨q1, hq1, h⟩ := iq_bnd h
    refine iq_G_call (σ' := (32, [some (.ref 69), some (.ref 16), some (.int x2), some (.long y3), none, some (.long y5), none, some (.int x7)], [.int q1.1], (iq_sh l, q1.2.1, q1.2.2, X))) (fun _ => rfl) (zH_multiplyOdds_ok l x7 I J X hq1) rfl rfl ?_
    rcases iq_ite h with ⟨hc_, h⟩ | ⟨hc_, h⟩
    · refine iq_G_pos (c := q1.1 = 0) (σ1 := (66, [some (.ref 69), some (.ref 16), some (.int x2), some (.long y3), none, some (.long y5), none, some (.int x7)], [], (iq_sh l, q1.2.1, q1.2.2, X))) (fun _ => rfl) hc_ ?_
      refine iq_G_go (k := 2) (σ' := (10, [some (.ref 69), some (.ref 16), some (.int x2), some (.long y3), none, some (.long y5), none, some (.int (x7 + (1 : Int32)))], [], (iq_sh l, q1.2.1, q1.2.2, X))) (fun _ => rfl) ?_
      cases h
      exact iq_G_fg (L := [some (.ref 69), some (.ref 16), some (.int x2), some (.long y3), none, some (.long y5), none, some (.int (x7 + (1 : Int32)))]) (And.intro rfl (And.intro rfl (And.intro rfl (And.intro rfl (And.intro rfl (And.intro rfl trivial)))))) (hc (x2, y3, y5, (x7 + (1 : Int32)), q1.2.1, q1.2.2) rfl)
    · refine iq_G_neg (c := q1.1 = 0) (σ1 := (35, [some (.ref 69), some (.ref 16), some (.int x2), some (.long y3), none, some (.long y5), none, some (.int x7)], [], (iq_sh l, q1.2.1, q1.2.2, X))) (fun _ => rfl) hc_ ?_
      refine iq_G_go (k := 9) (σ' := (49, [some (.ref 69), some (.ref 16), some (.int x2), some (.long y3), none, some (.long y5), none, some (.int x7)], [.int (lg_cmp ((q1.2.2 69 3) * y5) (y3 * (q1.2.2 69 4)))], (iq_sh l, q1.2.1, q1.2.2, X))) (fun _ => rfl) ?_
      rcases iq_ite h with ⟨hc_, h⟩ | ⟨hc_, h⟩
      · refine iq_G_pos (c := (lg_cmp ((q1.2.2 69 3) * y5) (y3 * (q1.2.2 69 4))) ≤ 0) (σ1 := (66, [some (.ref 69), some (.ref 16), some (.int x2), some (.long y3), none, some (.long y5), none, some (.int x7)], [], (iq_sh l, q1.2.1, q1.2.2, X))) (fun _ => rfl) hc_ ?_
        refine iq_G_go (k := 2) (σ' := (10, [some (.ref 69), some (.ref 16), some (.int x2), some (.long y3), none, some (.long y5), none, some (.int (x7 + (1 : Int32)))], [], (iq_sh l, q1.2.1, q1.2.2, X))) (fun _ => rfl) ?_
        cases h
        exact iq_G_fg (L := [some (.ref 69), some (.ref 16), some (.int x2), some (.long y3), none, some (.long y5), none, some (.int (x7 + (1 : Int32)))]) (And.intro rfl (And.intro rfl (And.intro rfl (And.intro rfl (And.intro rfl (And.intro rfl trivial)))))) (hc (x2, y3, y5, (x7 + (1 : Int32)), q1.2.1, q1.2.2) rfl)
      · refine iq_G_neg (c := (lg_cmp ((q1.2.2 69 3) * y5) (y3 * (q1.2.2 69 4))) ≤ 0) (σ1 := (52, [some (.ref 69), some (.ref 16), some (.int x2), some (.long y3), none, some (.long y5), none, some (.int x7)], [], (iq_sh l, q1.2.1, q1.2.2, X))) (fun _ => rfl) hc_ ?_
        refine iq_G_go (k := 10) (σ' := (10, [some (.ref 69), some (.ref 16), some (.int x7), some (.long (q1.2.2 69 3)), none, some (.long (q1.2.2 69 4)), none, some (.int (x7 + (1 : Int32)))], [], (iq_sh l, q1.2.1, q1.2.2, X))) (fun _ => rfl) ?_
        cases h
        exact iq_G_fg (L := [some (.ref 69), some (.ref 16), some (.int x7), some (.long (q1.2.2 69 3)), none, some (.long (q1.2.2 69 4)), none, some (.int (x7 + (1 : Int32)))]) (And.intro rfl (And.intro rfl (And.intro rfl (And.intro rfl (And.intro rfl (And.intro rfl trivial)))))) (hc (x7, (q1.2.2 69 3), (q1.2.2 69 4), (x7 + (1 : Int32)), q1.2.1, q1.2.2) rfl)
set_option maxRecDepth 100000 in
theorem zH_likeliest_l10_ok (l : Nat)   (X : iq_X) {n : Nat} {v : Int32 × Int64 × Int64 × Int32 × iq_I × iq_J} {w : Int32 × iq_I × iq_J} (h : zH_likeliest_l10  n v = some w) (r : iq_R × iq_M) (hq : iq_Gg 6 29 (72, [none, none, some (.int w.1), none, none, none, none, none], [], (iq_sh l, w.2.1, w.2.2, X)) r) : iq_Gg 6 29 (10, [some (.ref 69), some (.ref 16), some (.int v.1), some (.long v.2.1), none, some (.long v.2.2.1), none, some (.int v.2.2.2.1)], [], (iq_sh l, v.2.2.2.2.1, v.2.2.2.2.2, X)) r :=
  iq_lp_ok (σ := fun v => (10, [some (.ref 69), some (.ref 16), some (.int v.1), some (.long v.2.1), none, some (.long v.2.2.1), none, some (.int v.2.2.2.1)], [], (iq_sh l, v.2.2.2.2.1, v.2.2.2.2.2, X))) (Q := fun w r => iq_Gg 6 29 (72, [none, none, some (.int w.1), none, none, none, none, none], [], (iq_sh l, w.2.1, w.2.2, X)) r) (fun v q hv r h1 h2 => zH_likeliest_l10_bok l X v.1 v.2.1 v.2.2.1 v.2.2.2.1 v.2.2.2.2.1 v.2.2.2.2.2 hv r h1 h2) h r hq
set_option maxRecDepth 100000 in
theorem zH_likeliest_ok (l : Nat)   (I : iq_I) (J : iq_J) (X : iq_X) {q : Int32 × iq_I × iq_J} (h : zH_likeliest I J = some q) : iq_Cc 7 29 [.ref 69, .ref 16] (iq_sh l, I, J, X) (.inl (some (.int q.1)), (iq_sh l, q.2.1, q.2.2, X)) := by
  refine iq_Cc_of (L := [some (.ref 69), some (.ref 16), none, none, none, none, none, none]) rfl rfl ?_
  unfold zH_likeliest at h
  refine iq_G_go (k := 8) (σ' := (10, [some (.ref 69), some (.ref 16), some (.int (-1 : Int32)), some (.long (0 : Int64)), none, some (.long (1 : Int64)), none, some (.int (0 : Int32))], [], (iq_sh l, I, J, X))) (fun _ => rfl) ?_
  obtain ⟨w2, hw2, h⟩ := iq_bnd h
  refine iq_G_fg (L := [some (.ref 69), some (.ref 16), some (.int (-1 : Int32)), some (.long (0 : Int64)), none, some (.long (1 : Int64)), none, some (.int (0 : Int32))]) (And.intro rfl (And.intro rfl (And.intro rfl (And.intro rfl (And.intro rfl (And.intro rfl trivial)))))) ?_
  refine zH_likeliest_l10_ok l X hw2 _ ?_
  show iq_Gg 6 29 (72, [none, none, some (.int w2.1), none, none, none, none, none], [], (iq_sh l, w2.2.1, w2.2.2, X)) _
  refine iq_G_go (k := 1) (σ' := (73, [none, none, some (.int w2.1), none, none, none, none, none], [.int w2.1], (iq_sh l, w2.2.1, w2.2.2, X))) (fun _ => rfl) ?_
  cases h
  exact iq_G_ret (fun _ => rfl)
set_option maxRecDepth 100000 in
theorem zO_who_ok (l : Nat)  (x1 : Int32) (I : iq_I) (J : iq_J) (X : iq_X) {q : (Int32 ⊕ Nat) × iq_I × iq_J × iq_X} (h : zO_who x1 I J X = some q) : iq_Cc 8 173 [.ref 1, .int x1] (iq_sh l, I, J, X) ((ir_Ri q.1), (iq_sh l, q.2.1, q.2.2.1, q.2.2.2)) := by
  refine iq_Cc_of (L := [some (.ref 1), some (.int x1)]) rfl rfl ?_
  unfold zO_who at h
  refine iq_G_go (k := 2) (σ' := (2, [some (.ref 1), some (.int x1)], [.int x1, .ref 1], (iq_sh l, I, J, X))) (fun _ => rfl) ?_
  obtain ⟨q1, hq1, h⟩ := iq_bnd h
  have hC := (zO_needOneOfTwo_ok l x1 I J X hq1)
  rcases iq_smc h with ⟨a2, ha, h⟩ | ⟨k3, ha, h⟩
  · rw [ha] at hC
    refine iq_G_call (σ' := (5, [some (.ref 1), some (.int x1)], [], (iq_sh l, I, J, q1.2))) (fun _ => rfl) hC rfl rfl ?_
    refine iq_G_go (k := 1) (σ' := (6, [some (.ref 1), some (.int x1)], [.int x1], (iq_sh l, I, J, q1.2))) (fun _ => rfl) ?_
    rcases iq_ite h with ⟨hc_, h⟩ | ⟨hc_, h⟩
    · refine iq_G_pos (c := ¬ x1 = 0) (σ1 := (23, [some (.ref 1), some (.int x1)], [], (iq_sh l, I, J, q1.2))) (fun _ => rfl) hc_ ?_
      refine iq_G_go (k := 4) (σ' := (31, [some (.ref 1), some (.int x1)], [.ref 16, .ref 69], (iq_sh l, I, J, q1.2))) (fun _ => rfl) ?_
      obtain ⟨q4, hq4, h⟩ := iq_bnd h
      refine iq_G_call (σ' := (34, [some (.ref 1), some (.int x1)], [.int q4.1], (iq_sh l, q4.2.1, q4.2.2, q1.2))) (fun _ => rfl) (zH_likeliest_ok l  I J q1.2 hq4) rfl rfl ?_
      cases h
      exact iq_G_ret (fun _ => rfl)
    · refine iq_G_neg (c := ¬ x1 = 0) (σ1 := (9, [some (.ref 1), some (.int x1)], [], (iq_sh l, I, J, q1.2))) (fun _ => rfl) hc_ ?_
      refine iq_G_go (k := 4) (σ' := (17, [some (.ref 1), some (.int x1)], [.ref 16, .ref 69], (iq_sh l, I, J, q1.2))) (fun _ => rfl) ?_
      obtain ⟨q5, hq5, h⟩ := iq_bnd h
      refine iq_G_call (σ' := (20, [some (.ref 1), some (.int x1)], [.int q5.1], (iq_sh l, q5.2.1, q5.2.2, q1.2))) (fun _ => rfl) (zH_whoCan_ok l  I J q1.2 hq5) rfl rfl ?_
      refine iq_G_go (k := 1) (σ' := (34, [some (.ref 1), some (.int x1)], [.int q5.1], (iq_sh l, q5.2.1, q5.2.2, q1.2))) (fun _ => rfl) ?_
      cases h
      exact iq_G_ret (fun _ => rfl)
  · rw [ha] at hC
    cases h
    exact iq_G_callx (fun _ => rfl) hC rfl rfl
set_option maxRecDepth 100000 in
theorem zL_who_ok (l : Nat)  (x1 : Int32) (I : iq_I) (J : iq_J) (X : iq_X) {q : Int32 × iq_I × iq_J × iq_X} (h : zL_who x1 I J X = some q) : iq_Cc 9 343 [.ref 1, .int x1, .ref 114] (iq_sh l, I, J, X) (.inl (some (.int q.1)), (iq_sh l, q.2.1, q.2.2.1, q.2.2.2)) := by
  refine iq_Cc_of (L := [some (.ref 1), some (.int x1), some (.ref 114), none]) rfl rfl ?_
  unfold zL_who at h
  refine iq_G_go (k := 4) (σ' := (4, [some (.ref 1), some (.int x1), some (.ref 114), none], [.int x1, .ref 1, .int (0 : Int32), .ref 114], (iq_sh l, I, J, X))) (fun _ => rfl) ?_
  obtain ⟨q1, hq1, h⟩ := iq_bnd h
  have hC := (zO_who_ok l x1 I J X hq1)
  rcases iq_smc h with ⟨a2, ha, h⟩ | ⟨k3, ha, h⟩
  · rw [ha] at hC
    refine iq_G_call (σ' := (7, [some (.ref 1), some (.int x1), some (.ref 114), none], [.int a2, .int (0 : Int32), .ref 114], (iq_sh l, q1.2.1, q1.2.2.1, q1.2.2.2))) (fun _ => rfl) hC rfl rfl ?_
    refine iq_G_go (k := 1) (σ' := (8, [some (.ref 1), some (.int x1), some (.ref 114), none], [.long (Int32.toInt64 a2), .int (0 : Int32), .ref 114], (iq_sh l, q1.2.1, q1.2.2.1, q1.2.2.2))) (fun _ => rfl) ?_
    refine iq_G_go (k := 1) (σ' := (9, [some (.ref 1), some (.int x1), some (.ref 114), none], [], (iq_sh l, q1.2.1, (iq_upJ q1.2.2.1 114 0 (Int32.toInt64 a2)), q1.2.2.2))) (fun _ => rfl) ?_
    obtain ⟨J4, eJ4, h⟩ := ir_letG h
    rw [← eJ4]
    clear eJ4
    refine iq_G_go (k := 2) (σ' := (16, [some (.ref 1), some (.int x1), some (.ref 114), none], [.int (0 : Int32)], (iq_sh l, q1.2.1, J4, q1.2.2.2))) (fun _ => rfl) ?_
    cases h
    exact iq_G_ret (fun _ => rfl)
  · rw [ha] at hC
    rcases iq_ite h with ⟨e, h⟩ | ⟨_, h⟩
    · subst e
      refine iq_G_call (σ' := (13, [some (.ref 1), some (.int x1), some (.ref 114), none], [], (iq_sh l, q1.2.1, q1.2.2.1, q1.2.2.2))) (fun _ => rfl) hC rfl rfl ?_
      refine iq_G_go (k := 1) (σ' := (14, [some (.ref 1), some (.int x1), some (.ref 114), none], [.int (1 : Int32)], (iq_sh l, q1.2.1, q1.2.2.1, q1.2.2.2))) (fun _ => rfl) ?_
      cases h
      exact iq_G_ret (fun _ => rfl)
    · obtain ⟨e, h⟩ := iq_itn h
      cases h
set_option maxRecDepth 100000 in
theorem zM_weight_76_98_ok (l : Nat)  (x2 : Int32) (x3 : Int32) (x4 : Int32) (x5 : Int32) (I : iq_I) (J : iq_J) (X : iq_X) {q : Int32 × iq_I} (h : zM_weight_76_98 x2 x3 x4 x5 I = some q) : iq_Cc 5 282 [.ref 76, .ref 98, .int x2, .int x3, .int x4, .int x5] (iq_sh l, I, J, X) (.inl (some (.int q.1)), (iq_sh l, q.2, J, X)) := by
  refine iq_Cc_of (L := [some (.ref 76), some (.ref 98), some (.int x2), some (.int x3), some (.int x4), some (.int x5), none]) rfl rfl ?_
  unfold zM_weight_76_98 at h
  refine iq_G_go (k := 5) (σ' := (7, [some (.ref 76), some (.ref 98), some (.int x2), some (.int x3), some (.int x4), some (.int x5), none], [.int x5, .int x4, .int x3, .ref 98, .ref 76], (iq_sh l, I, J, X))) (fun _ => rfl) ?_
  obtain ⟨q1, hq1, h⟩ := iq_bnd h
  refine iq_G_call (σ' := (10, [some (.ref 76), some (.ref 98), some (.int x2), some (.int x3), some (.int x4), some (.int x5), none], [.int q1.1], (iq_sh l, q1.2, J, X))) (fun _ => rfl) (zM_mayCome_76_98_ok l x3 x4 x5 I J X hq1) rfl rfl ?_
  rcases iq_ite h with ⟨hc_, h⟩ | ⟨hc_, h⟩
  · refine iq_G_pos (c := ¬ q1.1 = 0) (σ1 := (15, [some (.ref 76), some (.ref 98), some (.int x2), some (.int x3), some (.int x4), some (.int x5), none], [], (iq_sh l, q1.2, J, X))) (fun _ => rfl) hc_ ?_
    refine iq_G_go (k := 4) (σ' := (21, [some (.ref 76), some (.ref 98), some (.int x2), some (.int x3), some (.int x4), some (.int x5), none], [.int x2, .ref 82, .ref 76], (iq_sh l, q1.2, J, X))) (fun _ => rfl) ?_
    obtain ⟨hc_, h⟩ := iq_itn h
    refine iq_G_pos (c := iq_in x2 4) (σ1 := (22, [some (.ref 76), some (.ref 98), some (.int x2), some (.int x3), some (.int x4), some (.int x5), none], [.int (q1.2 82 (Int32.toNatClampNeg x2)), .ref 76], (iq_sh l, q1.2, J, X))) (fun _ => rfl) hc_ ?_
    refine iq_G_go (k := 3) (σ' := (26, [some (.ref 76), some (.ref 98), some (.int x2), some (.int x3), some (.int x4), some (.int x5), none], [.int x5, .int x3, .ref 98, .int (q1.2 82 (Int32.toNatClampNeg x2)), .ref 76], (iq_sh l, q1.2, J, X))) (fun _ => rfl) ?_
    obtain ⟨q2, hq2, h⟩ := iq_bnd h
    refine iq_G_call (σ' := (29, [some (.ref 76), some (.ref 98), some (.int x2), some (.int x3), some (.int x4), some (.int x5), none], [.int q2.1], (iq_sh l, q2.2, J, X))) (fun _ => rfl) (zM_rule_76_98_ok l (q1.2 82 (Int32.toNatClampNeg x2)) x3 x5 q1.2 J X hq2) rfl rfl ?_
    refine iq_G_go (k := 2) (σ' := (33, [some (.ref 76), some (.ref 98), some (.int x2), some (.int x3), some (.int x4), some (.int x5), some (.int q2.1)], [.int q2.1], (iq_sh l, q2.2, J, X))) (fun _ => rfl) ?_
    rcases iq_ite h with ⟨hc_, h⟩ | ⟨hc_, h⟩
    · refine iq_G_pos (c := 0 ≤ q2.1) (σ1 := (40, [some (.ref 76), some (.ref 98), some (.int x2), some (.int x3), some (.int x4), some (.int x5), some (.int q2.1)], [], (iq_sh l, q2.2, J, X))) (fun _ => rfl) hc_ ?_
      refine iq_G_go (k := 2) (σ' := (44, [some (.ref 76), some (.ref 98), some (.int x2), some (.int x3), some (.int x4), some (.int x5), some (.int q2.1)], [.int (99 : Int32), .int q2.1], (iq_sh l, q2.2, J, X))) (fun _ => rfl) ?_
      rcases iq_ite h with ⟨hc_, h⟩ | ⟨hc_, h⟩
      · refine iq_G_pos (c := q2.1 ≤ (99 : Int32)) (σ1 := (52, [some (.ref 76), some (.ref 98), some (.int x2), some (.int x3), some (.int x4), some (.int x5), some (.int q2.1)], [], (iq_sh l, q2.2, J, X))) (fun _ => rfl) hc_ ?_
        refine iq_G_go (k := 1) (σ' := (54, [some (.ref 76), some (.ref 98), some (.int x2), some (.int x3), some (.int x4), some (.int x5), some (.int q2.1)], [.int q2.1], (iq_sh l, q2.2, J, X))) (fun _ => rfl) ?_
        cases h
        exact iq_G_ret (fun _ => rfl)
      · refine iq_G_neg (c := q2.1 ≤ (99 : Int32)) (σ1 := (47, [some (.ref 76), some (.ref 98), some (.int x2), some (.int x3), some (.int x4), some (.int x5), some (.int q2.1)], [], (iq_sh l, q2.2, J, X))) (fun _ => rfl) hc_ ?_
        refine iq_G_go (k := 2) (σ' := (54, [some (.ref 76), some (.ref 98), some (.int x2), some (.int x3), some (.int x4), some (.int x5), some (.int q2.1)], [.int (99 : Int32)], (iq_sh l, q2.2, J, X))) (fun _ => rfl) ?_
        cases h
        exact iq_G_ret (fun _ => rfl)
    · refine iq_G_neg (c := 0 ≤ q2.1) (σ1 := (36, [some (.ref 76), some (.ref 98), some (.int x2), some (.int x3), some (.int x4), some (.int x5), some (.int q2.1)], [], (iq_sh l, q2.2, J, X))) (fun _ => rfl) hc_ ?_
      refine iq_G_go (k := 2) (σ' := (54, [some (.ref 76), some (.ref 98), some (.int x2), some (.int x3), some (.int x4), some (.int x5), some (.int q2.1)], [.int (0 : Int32)], (iq_sh l, q2.2, J, X))) (fun _ => rfl) ?_
      cases h
      exact iq_G_ret (fun _ => rfl)
  · refine iq_G_neg (c := ¬ q1.1 = 0) (σ1 := (13, [some (.ref 76), some (.ref 98), some (.int x2), some (.int x3), some (.int x4), some (.int x5), none], [], (iq_sh l, q1.2, J, X))) (fun _ => rfl) hc_ ?_
    refine iq_G_go (k := 1) (σ' := (14, [some (.ref 76), some (.ref 98), some (.int x2), some (.int x3), some (.int x4), some (.int x5), none], [.int (0 : Int32)], (iq_sh l, q1.2, J, X))) (fun _ => rfl) ?_
    cases h
    exact iq_G_ret (fun _ => rfl)
set_option maxRecDepth 100000 in
theorem zM_weights_76_98_l14_bok (l : Nat)  (x2 : Int32) (x3 : Int32) (x4 : Int32) (J : iq_J) (X : iq_X) (x5 : Int32) (x6 : Int32) (I : iq_I) {q : (Int32 × Int32 × iq_I) ⊕ (Int32 × iq_I)} (h : zM_weights_76_98_l14_b x2 x3 x4 x5 x6 I = some q) (r : iq_R × iq_M) (hc : ∀ v, q = .inl v → iq_Gg 5 283 (14, [some (.ref 76), some (.ref 98), some (.int x2), some (.int x3), some (.int x4), some (.int v.1), some (.int v.2.1)], [], (iq_sh l, v.2.2, J, X)) r) (hx : ∀ w, q = .inr w → iq_Gg 5 283 (45, [none, none, none, none, none, some (.int w.1), none], [], (iq_sh l, w.2, J, X)) r) : iq_Gg 5 283 (14, [some (.ref 76), some (.ref 98), some (.int x2), some (.int x3), some (.int x4), some (.int x5), some (.int x6)], [], (iq_sh l, I, J, X)) r := by
  unfold zM_weights_76_98_l14_b at h
  refine iq_G_go (k := 3) (σ' := (20, [some (.ref 76), some (.ref 98), some (.int x2), some (.int x3), some (.int x4), some (.int x5), some (.int x6)], [.int (I 76 2), .int x6], (iq_sh l, I, J, X))) (fun _ => rfl) ?_
  rcases iq_ite h with ⟨hc_, h⟩ | ⟨hc_, h⟩
  · refine iq_G_pos (c := (I 76 2) ≤ x6) (σ1 := (45, [some (.ref 76), some (.ref 98), some (.int x2), some (.int x3), some (.int x4), some (.int x5), some (.int x6)], [], (iq_sh l, I, J, X))) (fun _ => rfl) hc_ ?_
    cases h
    exact iq_G_fg (L := [none, none, none, none, none, some (.int x5), none]) (And.intro rfl trivial) (hx (x5, I) rfl)
  · refine iq_G_neg (c := (I 76 2) ≤ x6) (σ1 := (23, [some (.ref 76), some (.ref 98), some (.int x2), some (.int x3), some (.int x4), some (.int x5), some (.int x6)], [], (iq_sh l, I, J, X))) (fun _ => rfl) hc_ ?_
    refine iq_G_go (k := 7) (σ' := (33, [some (.ref 76), some (.ref 98), some (.int x2), some (.int x3), some (.int x4), some (.int x5), some (.int x6)], [.int x6, .int x4, .int x3, .int x2, .ref 98, .ref 76, .int x5], (iq_sh l, I, J, X))) (fun _ => rfl) ?_
    obtain ⟨q2, hq2, h⟩ := iq_bnd h
    refine iq_G_call (σ' := (36, [some (.ref 76), some (.ref 98), some (.int x2), some (.int x3), some (.int x4), some (.int x5), some (.int x6)], [.int q2.1, .int x5], (iq_sh l, q2.2, J, X))) (fun _ => rfl) (zM_weight_76_98_ok l x2 x3 x4 x6 I J X hq2) rfl rfl ?_
    refine iq_G_go (k := 4) (σ' := (14, [some (.ref 76), some (.ref 98), some (.int x2), some (.int x3), some (.int x4), some (.int (x5 + q2.1)), some (.int (x6 + (1 : Int32)))], [], (iq_sh l, q2.2, J, X))) (fun _ => rfl) ?_
    cases h
    exact iq_G_fg (L := [some (.ref 76), some (.ref 98), some (.int x2), some (.int x3), some (.int x4), some (.int (x5 + q2.1)), some (.int (x6 + (1 : Int32)))]) (And.intro rfl (And.intro rfl (And.intro rfl (And.intro rfl (And.intro rfl (And.intro rfl (And.intro rfl trivial))))))) (hc ((x5 + q2.1), (x6 + (1 : Int32)), q2.2) rfl)
set_option maxRecDepth 100000 in
theorem zM_weights_76_98_l14_ok (l : Nat)  (x2 : Int32) (x3 : Int32) (x4 : Int32) (J : iq_J) (X : iq_X) {n : Nat} {v : Int32 × Int32 × iq_I} {w : Int32 × iq_I} (h : zM_weights_76_98_l14 x2 x3 x4 n v = some w) (r : iq_R × iq_M) (hq : iq_Gg 5 283 (45, [none, none, none, none, none, some (.int w.1), none], [], (iq_sh l, w.2, J, X)) r) : iq_Gg 5 283 (14, [some (.ref 76), some (.ref 98), some (.int x2), some (.int x3), some (.int x4), some (.int v.1), some (.int v.2.1)], [], (iq_sh l, v.2.2, J, X)) r :=
  iq_lp_ok (σ := fun v => (14, [some (.ref 76), some (.ref 98), some (.int x2), some (.int x3), some (.int x4), some (.int v.1), some (.int v.2.1)], [], (iq_sh l, v.2.2, J, X))) (Q := fun w r => iq_Gg 5 283 (45, [none, none, none, none, none, some (.int w.1), none], [], (iq_sh l, w.2, J, X)) r) (fun v q hv r h1 h2 => zM_weights_76_98_l14_bok l x2 x3 x4 J X v.1 v.2.1 v.2.2 hv r h1 h2) h r hq
set_option maxRecDepth 100000 in
theorem zM_weights_76_98_ok (l : Nat)  (x2 : Int32) (x3 : Int32) (I : iq_I) (J : iq_J) (X : iq_X) {q : Int32 × iq_I} (h : zM_weights_76_98 x2 x3 I = some q) : iq_Cc 6 283 [.ref 76, .ref 98, .int x2, .int x3] (iq_sh l, I, J, X) (.inl (some (.int q.1)), (iq_sh l, q.2, J, X)) := by
  refine iq_Cc_of (L := [some (.ref 76), some (.ref 98), some (.int x2), some (.int x3), none, none, none]) rfl rfl ?_
  unfold zM_weights_76_98 at h
  refine iq_G_go (k := 3) (σ' := (3, [some (.ref 76), some (.ref 98), some (.int x2), some (.int x3), none, none, none], [.int x3, .ref 98, .ref 76], (iq_sh l, I, J, X))) (fun _ => rfl) ?_
  obtain ⟨q1, hq1, h⟩ := iq_bnd h
  refine iq_G_call (σ' := (6, [some (.ref 76), some (.ref 98), some (.int x2), some (.int x3), none, none, none], [.int q1], (iq_sh l, I, J, X))) (fun _ => rfl) (zM_stateNow_76_98_ok l x3 I J X hq1) rfl rfl ?_
  refine iq_G_go (k := 5) (σ' := (14, [some (.ref 76), some (.ref 98), some (.int x2), some (.int x3), some (.int q1), some (.int (0 : Int32)), some (.int (0 : Int32))], [], (iq_sh l, I, J, X))) (fun _ => rfl) ?_
  obtain ⟨w3, hw3, h⟩ := iq_bnd h
  refine iq_G_fg (L := [some (.ref 76), some (.ref 98), some (.int x2), some (.int x3), some (.int q1), some (.int (0 : Int32)), some (.int (0 : Int32))]) (And.intro rfl (And.intro rfl (And.intro rfl (And.intro rfl (And.intro rfl (And.intro rfl (And.intro rfl trivial))))))) ?_
  refine zM_weights_76_98_l14_ok l x2 x3 q1 J X hw3 _ ?_
  show iq_Gg 5 283 (45, [none, none, none, none, none, some (.int w3.1), none], [], (iq_sh l, w3.2, J, X)) _
  refine iq_G_go (k := 1) (σ' := (47, [none, none, none, none, none, some (.int w3.1), none], [.int w3.1], (iq_sh l, w3.2, J, X))) (fun _ => rfl) ?_
  cases h
  exact iq_G_ret (fun _ => rfl)
set_option maxRecDepth 100000 in
theorem zM_portion_l11_bok (l : Nat)  (x0 : Int32) (x1 : Int32) (x2 : Int32) (I : iq_I) (J : iq_J) (X : iq_X) (x3 : Int32) (x4 : Int32)  {q : (Int32 × Int32) ⊕ (Int32)} (h : zM_portion_l11_b x0 x1 x2 I x3 x4 = some q) (r : iq_R × iq_M) (hc : ∀ v, q = .inl v → iq_Gg 0 284 (11, [some (.int x0), some (.int x1), some (.int x2), some (.int v.1), some (.int v.2), none], [], (iq_sh l, I, J, X)) r) (hx : ∀ w, q = .inr w → iq_Gg 0 284 (32, [some (.int x0), some (.int x1), some (.int x2), some (.int w), none, none], [], (iq_sh l, I, J, X)) r) : iq_Gg 0 284 (11, [some (.int x0), some (.int x1), some (.int x2), some (.int x3), some (.int x4), none], [], (iq_sh l, I, J, X)) r := by
  unfold zM_portion_l11_b at h
  refine iq_G_go (k := 1) (σ' := (13, [some (.int x0), some (.int x1), some (.int x2), some (.int x3), some (.int x4), none], [.int x4], (iq_sh l, I, J, X))) (fun _ => rfl) ?_
  rcases iq_ite h with ⟨hc_, h⟩ | ⟨hc_, h⟩
  · refine iq_G_pos (c := x4 = 0) (σ1 := (32, [some (.int x0), some (.int x1), some (.int x2), some (.int x3), some (.int x4), none], [], (iq_sh l, I, J, X))) (fun _ => rfl) hc_ ?_
    cases h
    exact iq_G_fg (L := [some (.int x0), some (.int x1), some (.int x2), some (.int x3), none, none]) (And.intro rfl (And.intro rfl (And.intro rfl (And.intro rfl trivial)))) (hx x3 rfl)
  · refine iq_G_neg (c := x4 = 0) (σ1 := (16, [some (.int x0), some (.int x1), some (.int x2), some (.int x3), some (.int x4), none], [], (iq_sh l, I, J, X))) (fun _ => rfl) hc_ ?_
    refine iq_G_go (k := 2) (σ' := (19, [some (.int x0), some (.int x1), some (.int x2), some (.int x3), some (.int x4), none], [.int x4, .int x3], (iq_sh l, I, J, X))) (fun _ => rfl) ?_
    obtain ⟨hc_, h⟩ := ir_nti h
    refine iq_G_neg (c := x4 = 0) (σ1 := (20, [some (.int x0), some (.int x1), some (.int x2), some (.int x3), some (.int x4), none], [.int (x3 - x3 / x4 * x4)], (iq_sh l, I, J, X))) (fun _ => rfl) hc_ ?_
    refine iq_G_go (k := 6) (σ' := (11, [some (.int x0), some (.int x1), some (.int x2), some (.int x4), some (.int (x3 - x3 / x4 * x4)), some (.int (x3 - x3 / x4 * x4))], [], (iq_sh l, I, J, X))) (fun _ => rfl) ?_
    cases h
    exact iq_G_fg (L := [some (.int x0), some (.int x1), some (.int x2), some (.int x4), some (.int (x3 - x3 / x4 * x4)), none]) (And.intro rfl (And.intro rfl (And.intro rfl (And.intro rfl (And.intro rfl trivial))))) (hc (x4, (x3 - x3 / x4 * x4)) rfl)
set_option maxRecDepth 100000 in
theorem zM_portion_l11_ok (l : Nat)  (x0 : Int32) (x1 : Int32) (x2 : Int32) (I : iq_I) (J : iq_J) (X : iq_X) {n : Nat} {v : Int32 × Int32} {w : Int32} (h : zM_portion_l11 x0 x1 x2 I n v = some w) (r : iq_R × iq_M) (hq : iq_Gg 0 284 (32, [some (.int x0), some (.int x1), some (.int x2), some (.int w), none, none], [], (iq_sh l, I, J, X)) r) : iq_Gg 0 284 (11, [some (.int x0), some (.int x1), some (.int x2), some (.int v.1), some (.int v.2), none], [], (iq_sh l, I, J, X)) r :=
  iq_lp_ok (σ := fun v => (11, [some (.int x0), some (.int x1), some (.int x2), some (.int v.1), some (.int v.2), none], [], (iq_sh l, I, J, X))) (Q := fun w r => iq_Gg 0 284 (32, [some (.int x0), some (.int x1), some (.int x2), some (.int w), none, none], [], (iq_sh l, I, J, X)) r) (fun v q hv r h1 h2 => zM_portion_l11_bok l x0 x1 x2 I J X v.1 v.2 hv r h1 h2) h r hq
set_option maxRecDepth 100000 in
theorem zM_portion_41_ok (l : Nat)  (x3 : Int32) (s0 : Int32) (I : iq_I) (J : iq_J) (X : iq_X)  {q : Int32} (h : zM_portion_41 x3 s0 I = some q)  : iq_Gg 0 284 (41, [none, none, none, some (.int x3), none, none], [.int s0], (iq_sh l, I, J, X)) (.inl (some (.int q)), (iq_sh l, I, J, X)) := by
  unfold zM_portion_41 at h
  refine iq_G_go (k := 1) (σ' := (42, [none, none, none, some (.int x3), none, none], [.int x3, .int s0], (iq_sh l, I, J, X))) (fun _ => rfl) ?_
  obtain ⟨hc_, h⟩ := ir_nti h
  refine iq_G_neg (c := x3 = 0) (σ1 := (43, [none, none, none, some (.int x3), none, none], [.int (s0 / x3)], (iq_sh l, I, J, X))) (fun _ => rfl) hc_ ?_
  cases h
  exact iq_G_ret (fun _ => rfl)
set_option maxRecDepth 100000 in
theorem zM_portion_ok (l : Nat)  (x0 : Int32) (x1 : Int32) (x2 : Int32) (I : iq_I) (J : iq_J) (X : iq_X) {q : Int32} (h : zM_portion x0 x1 x2 I = some q) : iq_Cc 1 284 [.int x0, .int x1, .int x2] (iq_sh l, I, J, X) (.inl (some (.int q)), (iq_sh l, I, J, X)) := by
  refine iq_Cc_of (L := [some (.int x0), some (.int x1), some (.int x2), none, none, none]) rfl rfl ?_
  unfold zM_portion at h
  refine iq_G_go (k := 1) (σ' := (1, [some (.int x0), some (.int x1), some (.int x2), none, none, none], [.int x0], (iq_sh l, I, J, X))) (fun _ => rfl) ?_
  rcases iq_ite h with ⟨hc_, h⟩ | ⟨hc_, h⟩
  · refine iq_G_pos (c := ¬ x0 = 0) (σ1 := (6, [some (.int x0), some (.int x1), some (.int x2), none, none, none], [], (iq_sh l, I, J, X))) (fun _ => rfl) hc_ ?_
    refine iq_G_go (k := 4) (σ' := (11, [some (.int x0), some (.int x1), some (.int x2), some (.int x1), some (.int x0), none], [], (iq_sh l, I, J, X))) (fun _ => rfl) ?_
    obtain ⟨w1, hw1, h⟩ := iq_bnd h
    refine iq_G_fg (L := [some (.int x0), some (.int x1), some (.int x2), some (.int x1), some (.int x0), none]) (And.intro rfl (And.intro rfl (And.intro rfl (And.intro rfl (And.intro rfl trivial))))) ?_
    refine zM_portion_l11_ok l x0 x1 x2 I J X hw1 _ ?_
    show iq_Gg 0 284 (32, [some (.int x0), some (.int x1), some (.int x2), some (.int w1), none, none], [], (iq_sh l, I, J, X)) _
    refine iq_G_go (k := 1) (σ' := (33, [some (.int x0), some (.int x1), some (.int x2), some (.int w1), none, none], [.int x2], (iq_sh l, I, J, X))) (fun _ => rfl) ?_
    rcases iq_ite h with ⟨hc_, h⟩ | ⟨hc_, h⟩
    · refine iq_G_pos (c := ¬ x2 = 0) (σ1 := (40, [some (.int x0), some (.int x1), some (.int x2), some (.int w1), none, none], [], (iq_sh l, I, J, X))) (fun _ => rfl) hc_ ?_
      refine iq_G_go (k := 1) (σ' := (41, [some (.int x0), some (.int x1), some (.int x2), some (.int w1), none, none], [.int x1], (iq_sh l, I, J, X))) (fun _ => rfl) ?_
      exact iq_G_fg (L := [none, none, none, some (.int w1), none, none]) (And.intro rfl trivial) (zM_portion_41_ok l w1 x1 I J X  h )
    · refine iq_G_neg (c := ¬ x2 = 0) (σ1 := (36, [some (.int x0), some (.int x1), some (.int x2), some (.int w1), none, none], [], (iq_sh l, I, J, X))) (fun _ => rfl) hc_ ?_
      refine iq_G_go (k := 2) (σ' := (41, [some (.int x0), some (.int x1), some (.int x2), some (.int w1), none, none], [.int x0], (iq_sh l, I, J, X))) (fun _ => rfl) ?_
      exact iq_G_fg (L := [none, none, none, some (.int w1), none, none]) (And.intro rfl trivial) (zM_portion_41_ok l w1 x0 I J X  h )
  · refine iq_G_neg (c := ¬ x0 = 0) (σ1 := (4, [some (.int x0), some (.int x1), some (.int x2), none, none, none], [], (iq_sh l, I, J, X))) (fun _ => rfl) hc_ ?_
    refine iq_G_go (k := 1) (σ' := (5, [some (.int x0), some (.int x1), some (.int x2), none, none, none], [.int x2], (iq_sh l, I, J, X))) (fun _ => rfl) ?_
    cases h
    exact iq_G_ret (fun _ => rfl)
set_option maxRecDepth 100000 in
theorem zM_oddsOf_ok (l : Nat)  (x1 : Int32) (x2 : Int32) (x3 : Int32) (x4 : Int32) (I : iq_I) (J : iq_J) (X : iq_X) {q : Int32 × iq_I} (h : zM_oddsOf x1 x2 x3 x4 I = some q) : iq_Cc 7 285 [.ref 76, .int x1, .int x2, .int x3, .int x4] (iq_sh l, I, J, X) (.inl (some (.int q.1)), (iq_sh l, q.2, J, X)) := by
  refine iq_Cc_of (L := [some (.ref 76), some (.int x1), some (.int x2), some (.int x3), some (.int x4)]) rfl rfl ?_
  unfold zM_oddsOf at h
  refine iq_G_go (k := 9) (σ' := (13, [some (.ref 76), some (.int x1), some (.int x2), some (.int x3), some (.int x4)], [.int x2, .ref 98, .ref 76, .int x2, .int x1, .ref 98, .ref 76], (iq_sh l, I, J, X))) (fun _ => rfl) ?_
  obtain ⟨q1, hq1, h⟩ := iq_bnd h
  refine iq_G_call (σ' := (16, [some (.ref 76), some (.int x1), some (.int x2), some (.int x3), some (.int x4)], [.int q1, .int x2, .int x1, .ref 98, .ref 76], (iq_sh l, I, J, X))) (fun _ => rfl) (zM_stateNow_76_98_ok l x2 I J X hq1) rfl rfl ?_
  refine iq_G_go (k := 1) (σ' := (17, [some (.ref 76), some (.int x1), some (.int x2), some (.int x3), some (.int x4)], [.int x3, .int q1, .int x2, .int x1, .ref 98, .ref 76], (iq_sh l, I, J, X))) (fun _ => rfl) ?_
  obtain ⟨q2, hq2, h⟩ := iq_bnd h
  refine iq_G_call (σ' := (20, [some (.ref 76), some (.int x1), some (.int x2), some (.int x3), some (.int x4)], [.int q2.1], (iq_sh l, q2.2, J, X))) (fun _ => rfl) (zM_weight_76_98_ok l x1 x2 q1 x3 I J X hq2) rfl rfl ?_
  refine iq_G_go (k := 5) (σ' := (27, [some (.ref 76), some (.int x1), some (.int x2), some (.int x3), some (.int x4)], [.int x2, .int x1, .ref 98, .ref 76, .int q2.1], (iq_sh l, q2.2, J, X))) (fun _ => rfl) ?_
  obtain ⟨q3, hq3, h⟩ := iq_bnd h
  refine iq_G_call (σ' := (30, [some (.ref 76), some (.int x1), some (.int x2), some (.int x3), some (.int x4)], [.int q3.1, .int q2.1], (iq_sh l, q3.2, J, X))) (fun _ => rfl) (zM_weights_76_98_ok l x1 x2 q2.2 J X hq3) rfl rfl ?_
  refine iq_G_go (k := 1) (σ' := (32, [some (.ref 76), some (.int x1), some (.int x2), some (.int x3), some (.int x4)], [.int x4, .int q3.1, .int q2.1], (iq_sh l, q3.2, J, X))) (fun _ => rfl) ?_
  obtain ⟨q4, hq4, h⟩ := iq_bnd h
  refine iq_G_call (σ' := (35, [some (.ref 76), some (.int x1), some (.int x2), some (.int x3), some (.int x4)], [.int q4], (iq_sh l, q3.2, J, X))) (fun _ => rfl) (zM_portion_ok l q2.1 q3.1 x4 q3.2 J X hq4) rfl rfl ?_
  cases h
  exact iq_G_ret (fun _ => rfl)
set_option maxRecDepth 100000 in
theorem zM_allOdds_l5_bok (l : Nat)  (x1 : Int32) (x2 : Int32) (J : iq_J) (X : iq_X) (y3 : Int64) (x5 : Int32) (I : iq_I) {q : (Int64 × Int32 × iq_I) ⊕ (Int64 × iq_I)} (h : zM_allOdds_l5_b x1 x2 y3 x5 I = some q) (r : iq_R × iq_M) (hc : ∀ v, q = .inl v → iq_Gg 7 289 (5, [some (.ref 76), some (.int x1), some (.int x2), some (.long v.1), none, some (.int v.2.1)], [], (iq_sh l, v.2.2, J, X)) r) (hx : ∀ w, q = .inr w → iq_Gg 7 289 (50, [none, none, none, some (.long w.1), none, none], [], (iq_sh l, w.2, J, X)) r) : iq_Gg 7 289 (5, [some (.ref 76), some (.int x1), some (.int x2), some (.long y3), none, some (.int x5)], [], (iq_sh l, I, J, X)) r := by
  unfold zM_allOdds_l5_b at h
  refine iq_G_go (k := 3) (σ' := (11, [some (.ref 76), some (.int x1), some (.int x2), some (.long y3), none, some (.int x5)], [.int (I 76 63), .int x5], (iq_sh l, I, J, X))) (fun _ => rfl) ?_
  rcases iq_ite h with ⟨hc_, h⟩ | ⟨hc_, h⟩
  · refine iq_G_pos (c := (I 76 63) ≤ x5) (σ1 := (50, [some (.ref 76), some (.int x1), some (.int x2), some (.long y3), none, some (.int x5)], [], (iq_sh l, I, J, X))) (fun _ => rfl) hc_ ?_
    cases h
    exact iq_G_fg (L := [none, none, none, some (.long y3), none, none]) (And.intro rfl trivial) (hx (y3, I) rfl)
  · refine iq_G_neg (c := (I 76 63) ≤ x5) (σ1 := (14, [some (.ref 76), some (.int x1), some (.int x2), some (.long y3), none, some (.int x5)], [], (iq_sh l, I, J, X))) (fun _ => rfl) hc_ ?_
    refine iq_G_go (k := 8) (σ' := (25, [some (.ref 76), some (.int x1), some (.int x2), some (.long y3), none, some (.int x5)], [.int ((2 : Int32) * x5), .ref 108, .int x1, .ref 76, .long y3], (iq_sh l, I, J, X))) (fun _ => rfl) ?_
    obtain ⟨hc_, h⟩ := iq_itn h
    refine iq_G_pos (c := iq_in ((2 : Int32) * x5) 6) (σ1 := (26, [some (.ref 76), some (.int x1), some (.int x2), some (.long y3), none, some (.int x5)], [.int (I 108 (Int32.toNatClampNeg ((2 : Int32) * x5))), .int x1, .ref 76, .long y3], (iq_sh l, I, J, X))) (fun _ => rfl) hc_ ?_
    refine iq_G_go (k := 7) (σ' := (36, [some (.ref 76), some (.int x1), some (.int x2), some (.long y3), none, some (.int x5)], [.int (((2 : Int32) * x5) + (1 : Int32)), .ref 108, .int (I 108 (Int32.toNatClampNeg ((2 : Int32) * x5))), .int x1, .ref 76, .long y3], (iq_sh l, I, J, X))) (fun _ => rfl) ?_
    obtain ⟨hc_, h⟩ := iq_itn h
    refine iq_G_pos (c := iq_in (((2 : Int32) * x5) + (1 : Int32)) 6) (σ1 := (37, [some (.ref 76), some (.int x1), some (.int x2), some (.long y3), none, some (.int x5)], [.int (I 108 (Int32.toNatClampNeg (((2 : Int32) * x5) + (1 : Int32)))), .int (I 108 (Int32.toNatClampNeg ((2 : Int32) * x5))), .int x1, .ref 76, .long y3], (iq_sh l, I, J, X))) (fun _ => rfl) hc_ ?_
    refine iq_G_go (k := 1) (σ' := (38, [some (.ref 76), some (.int x1), some (.int x2), some (.long y3), none, some (.int x5)], [.int x2, .int (I 108 (Int32.toNatClampNeg (((2 : Int32) * x5) + (1 : Int32)))), .int (I 108 (Int32.toNatClampNeg ((2 : Int32) * x5))), .int x1, .ref 76, .long y3], (iq_sh l, I, J, X))) (fun _ => rfl) ?_
    obtain ⟨q1, hq1, h⟩ := iq_bnd h
    refine iq_G_call (σ' := (41, [some (.ref 76), some (.int x1), some (.int x2), some (.long y3), none, some (.int x5)], [.int q1.1, .long y3], (iq_sh l, q1.2, J, X))) (fun _ => rfl) (zM_oddsOf_ok l x1 (I 108 (Int32.toNatClampNeg ((2 : Int32) * x5))) (I 108 (Int32.toNatClampNeg (((2 : Int32) * x5) + (1 : Int32)))) x2 I J X hq1) rfl rfl ?_
    refine iq_G_go (k := 5) (σ' := (5, [some (.ref 76), some (.int x1), some (.int x2), some (.long (y3 * (Int32.toInt64 q1.1))), none, some (.int (x5 + (1 : Int32)))], [], (iq_sh l, q1.2, J, X))) (fun _ => rfl) ?_
    cases h
    exact iq_G_fg (L := [some (.ref 76), some (.int x1), some (.int x2), some (.long (y3 * (Int32.toInt64 q1.1))), none, some (.int (x5 + (1 : Int32)))]) (And.intro rfl (And.intro rfl (And.intro rfl (And.intro rfl (And.intro rfl trivial))))) (hc ((y3 * (Int32.toInt64 q1.1)), (x5 + (1 : Int32)), q1.2) rfl)
set_option maxRecDepth 100000 in
theorem zM_allOdds_l5_ok (l : Nat)  (x1 : Int32) (x2 : Int32) (J : iq_J) (X : iq_X) {n : Nat} {v : Int64 × Int32 × iq_I} {w : Int64 × iq_I} (h : zM_allOdds_l5 x1 x2 n v = some w) (r : iq_R × iq_M) (hq : iq_Gg 7 289 (50, [none, none, none, some (.long w.1), none, none], [], (iq_sh l, w.2, J, X)) r) : iq_Gg 7 289 (5, [some (.ref 76), some (.int x1), some (.int x2), some (.long v.1), none, some (.int v.2.1)], [], (iq_sh l, v.2.2, J, X)) r :=
  iq_lp_ok (σ := fun v => (5, [some (.ref 76), some (.int x1), some (.int x2), some (.long v.1), none, some (.int v.2.1)], [], (iq_sh l, v.2.2, J, X))) (Q := fun w r => iq_Gg 7 289 (50, [none, none, none, some (.long w.1), none, none], [], (iq_sh l, w.2, J, X)) r) (fun v q hv r h1 h2 => zM_allOdds_l5_bok l x1 x2 J X v.1 v.2.1 v.2.2 hv r h1 h2) h r hq
set_option maxRecDepth 100000 in
theorem zM_allOdds_ok (l : Nat)  (x1 : Int32) (x2 : Int32) (I : iq_I) (J : iq_J) (X : iq_X) {q : Int64 × iq_I} (h : zM_allOdds x1 x2 I = some q) : iq_Cc 8 289 [.ref 76, .int x1, .int x2] (iq_sh l, I, J, X) (.inl (some (.long q.1)), (iq_sh l, q.2, J, X)) := by
  refine iq_Cc_of (L := [some (.ref 76), some (.int x1), some (.int x2), none, none, none]) rfl rfl ?_
  unfold zM_allOdds at h
  refine iq_G_go (k := 4) (σ' := (5, [some (.ref 76), some (.int x1), some (.int x2), some (.long (1 : Int64)), none, some (.int (0 : Int32))], [], (iq_sh l, I, J, X))) (fun _ => rfl) ?_
  obtain ⟨w2, hw2, h⟩ := iq_bnd h
  refine iq_G_fg (L := [some (.ref 76), some (.int x1), some (.int x2), some (.long (1 : Int64)), none, some (.int (0 : Int32))]) (And.intro rfl (And.intro rfl (And.intro rfl (And.intro rfl (And.intro rfl trivial))))) ?_
  refine zM_allOdds_l5_ok l x1 x2 J X hw2 _ ?_
  show iq_Gg 7 289 (50, [none, none, none, some (.long w2.1), none, none], [], (iq_sh l, w2.2, J, X)) _
  refine iq_G_go (k := 1) (σ' := (51, [none, none, none, some (.long w2.1), none, none], [.long w2.1], (iq_sh l, w2.2, J, X))) (fun _ => rfl) ?_
  cases h
  exact iq_G_ret (fun _ => rfl)
set_option maxRecDepth 100000 in
theorem zM_who_l23_bok (l : Nat)  (x1 : Int32) (J : iq_J) (X : iq_X) (x2 : Int32) (x3 : Int32) (x4 : Int32) (I : iq_I) {q : (Int32 × Int32 × Int32 × iq_I) ⊕ (Int32 × Int32 × iq_I)} (h : zM_who_l23_b x1 x2 x3 x4 I = some q) (r : iq_R × iq_M) (hc : ∀ v, q = .inl v → iq_Gg 8 290 (23, [some (.ref 76), some (.int x1), some (.int v.1), some (.int v.2.1), some (.int v.2.2.1)], [], (iq_sh l, v.2.2.2, J, X)) r) (hx : ∀ w, q = .inr w → iq_Gg 8 290 (100, [none, some (.int x1), some (.int w.1), some (.int w.2.1), none], [], (iq_sh l, w.2.2, J, X)) r) : iq_Gg 8 290 (23, [some (.ref 76), some (.int x1), some (.int x2), some (.int x3), some (.int x4)], [], (iq_sh l, I, J, X)) r := by
  unfold zM_who_l23_b at h
  refine iq_G_go (k := 3) (σ' := (29, [some (.ref 76), some (.int x1), some (.int x2), some (.int x3), some (.int x4)], [.int (I 76 4), .int x4], (iq_sh l, I, J, X))) (fun _ => rfl) ?_
  rcases iq_ite h with ⟨hc_, h⟩ | ⟨hc_, h⟩
  · refine iq_G_pos (c := (I 76 4) ≤ x4) (σ1 := (100, [some (.ref 76), some (.int x1), some (.int x2), some (.int x3), some (.int x4)], [], (iq_sh l, I, J, X))) (fun _ => rfl) hc_ ?_
    cases h
    exact iq_G_fg (L := [none, some (.int x1), some (.int x2), some (.int x3), none]) (And.intro rfl (And.intro rfl (And.intro rfl trivial))) (hx (x2, x3, I) rfl)
  · refine iq_G_neg (c := (I 76 4) ≤ x4) (σ1 := (32, [some (.ref 76), some (.int x1), some (.int x2), some (.int x3), some (.int x4)], [], (iq_sh l, I, J, X))) (fun _ => rfl) hc_ ?_
    refine iq_G_go (k := 3) (σ' := (36, [some (.ref 76), some (.int x1), some (.int x2), some (.int x3), some (.int x4)], [.int (0 : Int32), .int x4, .ref 76], (iq_sh l, I, J, X))) (fun _ => rfl) ?_
    obtain ⟨q3, hq3, h⟩ := iq_bnd h
    refine iq_G_call (σ' := (39, [some (.ref 76), some (.int x1), some (.int x2), some (.int x3), some (.int x4)], [.long q3.1], (iq_sh l, q3.2, J, X))) (fun _ => rfl) (zM_allOdds_ok l x4 (0 : Int32) I J X hq3) rfl rfl ?_
    refine iq_G_go (k := 2) (σ' := (41, [some (.ref 76), some (.int x1), some (.int x2), some (.int x3), some (.int x4)], [.int (lg_cmp q3.1 (0 : Int64))], (iq_sh l, q3.2, J, X))) (fun _ => rfl) ?_
    rcases iq_ite h with ⟨hc_, h⟩ | ⟨hc_, h⟩
    · refine iq_G_pos (c := ¬ (lg_cmp q3.1 (0 : Int64)) = 0) (σ1 := (47, [some (.ref 76), some (.int x1), some (.int x2), some (.int x3), some (.int x4)], [], (iq_sh l, q3.2, J, X))) (fun _ => rfl) hc_ ?_
      refine iq_G_go (k := 8) (σ' := (56, [some (.ref 76), some (.int x1), some (.int (x2 ||| ((1 : Int32) <<< (x4 &&& 31)))), some (.int x3), some (.int x4)], [.int (-1 : Int32), .int x3], (iq_sh l, q3.2, J, X))) (fun _ => rfl) ?_
      rcases iq_ite h with ⟨hc_, h⟩ | ⟨hc_, h⟩
      · refine iq_G_pos (c := x3 = (-1 : Int32)) (σ1 := (91, [some (.ref 76), some (.int x1), some (.int (x2 ||| ((1 : Int32) <<< (x4 &&& 31)))), some (.int x3), some (.int x4)], [], (iq_sh l, q3.2, J, X))) (fun _ => rfl) hc_ ?_
        refine iq_G_go (k := 4) (σ' := (23, [some (.ref 76), some (.int x1), some (.int (x2 ||| ((1 : Int32) <<< (x4 &&& 31)))), some (.int x4), some (.int (x4 + (1 : Int32)))], [], (iq_sh l, q3.2, J, X))) (fun _ => rfl) ?_
        cases h
        exact iq_G_fg (L := [some (.ref 76), some (.int x1), some (.int (x2 ||| ((1 : Int32) <<< (x4 &&& 31)))), some (.int x4), some (.int (x4 + (1 : Int32)))]) (And.intro rfl (And.intro rfl (And.intro rfl (And.intro rfl (And.intro rfl trivial))))) (hc ((x2 ||| ((1 : Int32) <<< (x4 &&& 31))), x4, (x4 + (1 : Int32)), q3.2) rfl)
      · refine iq_G_neg (c := x3 = (-1 : Int32)) (σ1 := (59, [some (.ref 76), some (.int x1), some (.int (x2 ||| ((1 : Int32) <<< (x4 &&& 31)))), some (.int x3), some (.int x4)], [], (iq_sh l, q3.2, J, X))) (fun _ => rfl) hc_ ?_
        refine iq_G_go (k := 3) (σ' := (63, [some (.ref 76), some (.int x1), some (.int (x2 ||| ((1 : Int32) <<< (x4 &&& 31)))), some (.int x3), some (.int x4)], [.int (0 : Int32), .int x4, .ref 76], (iq_sh l, q3.2, J, X))) (fun _ => rfl) ?_
        obtain ⟨q4, hq4, h⟩ := iq_bnd h
        refine iq_G_call (σ' := (66, [some (.ref 76), some (.int x1), some (.int (x2 ||| ((1 : Int32) <<< (x4 &&& 31)))), some (.int x3), some (.int x4)], [.long q4.1], (iq_sh l, q4.2, J, X))) (fun _ => rfl) (zM_allOdds_ok l x4 (0 : Int32) q3.2 J X hq4) rfl rfl ?_
        refine iq_G_go (k := 3) (σ' := (69, [some (.ref 76), some (.int x1), some (.int (x2 ||| ((1 : Int32) <<< (x4 &&& 31)))), some (.int x3), some (.int x4)], [.int (1 : Int32), .int x3, .ref 76, .long q4.1], (iq_sh l, q4.2, J, X))) (fun _ => rfl) ?_
        obtain ⟨q5, hq5, h⟩ := iq_bnd h
        refine iq_G_call (σ' := (72, [some (.ref 76), some (.int x1), some (.int (x2 ||| ((1 : Int32) <<< (x4 &&& 31)))), some (.int x3), some (.int x4)], [.long q5.1, .long q4.1], (iq_sh l, q5.2, J, X))) (fun _ => rfl) (zM_allOdds_ok l x3 (1 : Int32) q4.2 J X hq5) rfl rfl ?_
        refine iq_G_go (k := 4) (σ' := (76, [some (.ref 76), some (.int x1), some (.int (x2 ||| ((1 : Int32) <<< (x4 &&& 31)))), some (.int x3), some (.int x4)], [.int (0 : Int32), .int x3, .ref 76, .long (q4.1 * q5.1)], (iq_sh l, q5.2, J, X))) (fun _ => rfl) ?_
        obtain ⟨q6, hq6, h⟩ := iq_bnd h
        refine iq_G_call (σ' := (79, [some (.ref 76), some (.int x1), some (.int (x2 ||| ((1 : Int32) <<< (x4 &&& 31)))), some (.int x3), some (.int x4)], [.long q6.1, .long (q4.1 * q5.1)], (iq_sh l, q6.2, J, X))) (fun _ => rfl) (zM_allOdds_ok l x3 (0 : Int32) q5.2 J X hq6) rfl rfl ?_
        refine iq_G_go (k := 3) (σ' := (83, [some (.ref 76), some (.int x1), some (.int (x2 ||| ((1 : Int32) <<< (x4 &&& 31)))), some (.int x3), some (.int x4)], [.int (1 : Int32), .int x4, .ref 76, .long q6.1, .long (q4.1 * q5.1)], (iq_sh l, q6.2, J, X))) (fun _ => rfl) ?_
        obtain ⟨q7, hq7, h⟩ := iq_bnd h
        refine iq_G_call (σ' := (86, [some (.ref 76), some (.int x1), some (.int (x2 ||| ((1 : Int32) <<< (x4 &&& 31)))), some (.int x3), some (.int x4)], [.long q7.1, .long q6.1, .long (q4.1 * q5.1)], (iq_sh l, q7.2, J, X))) (fun _ => rfl) (zM_allOdds_ok l x4 (1 : Int32) q6.2 J X hq7) rfl rfl ?_
        refine iq_G_go (k := 2) (σ' := (88, [some (.ref 76), some (.int x1), some (.int (x2 ||| ((1 : Int32) <<< (x4 &&& 31)))), some (.int x3), some (.int x4)], [.int (lg_cmp (q4.1 * q5.1) (q6.1 * q7.1))], (iq_sh l, q7.2, J, X))) (fun _ => rfl) ?_
        rcases iq_ite h with ⟨hc_, h⟩ | ⟨hc_, h⟩
        · refine iq_G_pos (c := (lg_cmp (q4.1 * q5.1) (q6.1 * q7.1)) ≤ 0) (σ1 := (94, [some (.ref 76), some (.int x1), some (.int (x2 ||| ((1 : Int32) <<< (x4 &&& 31)))), some (.int x3), some (.int x4)], [], (iq_sh l, q7.2, J, X))) (fun _ => rfl) hc_ ?_
          refine iq_G_go (k := 2) (σ' := (23, [some (.ref 76), some (.int x1), some (.int (x2 ||| ((1 : Int32) <<< (x4 &&& 31)))), some (.int x3), some (.int (x4 + (1 : Int32)))], [], (iq_sh l, q7.2, J, X))) (fun _ => rfl) ?_
          cases h
          exact iq_G_fg (L := [some (.ref 76), some (.int x1), some (.int (x2 ||| ((1 : Int32) <<< (x4 &&& 31)))), some (.int x3), some (.int (x4 + (1 : Int32)))]) (And.intro rfl (And.intro rfl (And.intro rfl (And.intro rfl (And.intro rfl trivial))))) (hc ((x2 ||| ((1 : Int32) <<< (x4 &&& 31))), x3, (x4 + (1 : Int32)), q7.2) rfl)
        · refine iq_G_neg (c := (lg_cmp (q4.1 * q5.1) (q6.1 * q7.1)) ≤ 0) (σ1 := (91, [some (.ref 76), some (.int x1), some (.int (x2 ||| ((1 : Int32) <<< (x4 &&& 31)))), some (.int x3), some (.int x4)], [], (iq_sh l, q7.2, J, X))) (fun _ => rfl) hc_ ?_
          refine iq_G_go (k := 4) (σ' := (23, [some (.ref 76), some (.int x1), some (.int (x2 ||| ((1 : Int32) <<< (x4 &&& 31)))), some (.int x4), some (.int (x4 + (1 : Int32)))], [], (iq_sh l, q7.2, J, X))) (fun _ => rfl) ?_
          cases h
          exact iq_G_fg (L := [some (.ref 76), some (.int x1), some (.int (x2 ||| ((1 : Int32) <<< (x4 &&& 31)))), some (.int x4), some (.int (x4 + (1 : Int32)))]) (And.intro rfl (And.intro rfl (And.intro rfl (And.intro rfl (And.intro rfl trivial))))) (hc ((x2 ||| ((1 : Int32) <<< (x4 &&& 31))), x4, (x4 + (1 : Int32)), q7.2) rfl)
    · refine iq_G_neg (c := ¬ (lg_cmp q3.1 (0 : Int64)) = 0) (σ1 := (44, [some (.ref 76), some (.int x1), some (.int x2), some (.int x3), some (.int x4)], [], (iq_sh l, q3.2, J, X))) (fun _ => rfl) hc_ ?_
      refine iq_G_go (k := 3) (σ' := (23, [some (.ref 76), some (.int x1), some (.int x2), some (.int x3), some (.int (x4 + (1 : Int32)))], [], (iq_sh l, q3.2, J, X))) (fun _ => rfl) ?_
      cases h
      exact iq_G_fg (L := [some (.ref 76), some (.int x1), some (.int x2), some (.int x3), some (.int (x4 + (1 : Int32)))]) (And.intro rfl (And.intro rfl (And.intro rfl (And.intro rfl (And.intro rfl trivial))))) (hc (x2, x3, (x4 + (1 : Int32)), q3.2) rfl)
set_option maxRecDepth 100000 in
theorem zM_who_l23_ok (l : Nat)  (x1 : Int32) (J : iq_J) (X : iq_X) {n : Nat} {v : Int32 × Int32 × Int32 × iq_I} {w : Int32 × Int32 × iq_I} (h : zM_who_l23 x1 n v = some w) (r : iq_R × iq_M) (hq : iq_Gg 8 290 (100, [none, some (.int x1), some (.int w.1), some (.int w.2.1), none], [], (iq_sh l, w.2.2, J, X)) r) : iq_Gg 8 290 (23, [some (.ref 76), some (.int x1), some (.int v.1), some (.int v.2.1), some (.int v.2.2.1)], [], (iq_sh l, v.2.2.2, J, X)) r :=
  iq_lp_ok (σ := fun v => (23, [some (.ref 76), some (.int x1), some (.int v.1), some (.int v.2.1), some (.int v.2.2.1)], [], (iq_sh l, v.2.2.2, J, X))) (Q := fun w r => iq_Gg 8 290 (100, [none, some (.int x1), some (.int w.1), some (.int w.2.1), none], [], (iq_sh l, w.2.2, J, X)) r) (fun v q hv r h1 h2 => zM_who_l23_bok l x1 J X v.1 v.2.1 v.2.2.1 v.2.2.2 hv r h1 h2) h r hq
set_option maxRecDepth 100000 in
theorem zM_who_ok (l : Nat)  (x1 : Int32) (I : iq_I) (J : iq_J) (X : iq_X) {q : Int32 × iq_I} (h : zM_who x1 I = some q) : iq_Cc 9 290 [.ref 76, .int x1] (iq_sh l, I, J, X) (.inl (some (.int q.1)), (iq_sh l, q.2, J, X)) := by
  refine iq_Cc_of (L := [some (.ref 76), some (.int x1), none, none, none]) rfl rfl ?_
  unfold zM_who at h
  refine iq_G_go (k := 2) (σ' := (2, [some (.ref 76), some (.int x1), none, none, none], [.int (0 : Int32), .ref 76], (iq_sh l, I, J, X))) (fun _ => rfl) ?_
  refine iq_G_go (k := 1) (σ' := (5, [some (.ref 76), some (.int x1), none, none, none], [], (iq_sh l, (iq_upI I 76 0 (0 : Int32)), J, X))) (fun _ => rfl) ?_
  obtain ⟨I1, eI1, h⟩ := ir_letG h
  rw [← eI1]
  clear eI1
  refine iq_G_go (k := 3) (σ' := (8, [some (.ref 76), some (.int x1), none, none, none], [.int (1 : Int32), .int x1, .ref 76], (iq_sh l, I1, J, X))) (fun _ => rfl) ?_
  obtain ⟨q2, hq2, h⟩ := iq_bnd h
  refine iq_G_call (σ' := (11, [some (.ref 76), some (.int x1), none, none, none], [.int q2.1], (iq_sh l, q2.2, J, X))) (fun _ => rfl) (zM_isWhat_ok l x1 (1 : Int32) I1 J X hq2) rfl rfl ?_
  rcases iq_ite h with ⟨hc_, h⟩ | ⟨hc_, h⟩
  · refine iq_G_pos (c := ¬ q2.1 = 0) (σ1 := (16, [some (.ref 76), some (.int x1), none, none, none], [], (iq_sh l, q2.2, J, X))) (fun _ => rfl) hc_ ?_
    refine iq_G_go (k := 6) (σ' := (23, [some (.ref 76), some (.int x1), some (.int (0 : Int32)), some (.int (-1 : Int32)), some (.int (0 : Int32))], [], (iq_sh l, q2.2, J, X))) (fun _ => rfl) ?_
    obtain ⟨w8, hw8, h⟩ := iq_bnd h
    refine iq_G_fg (L := [some (.ref 76), some (.int x1), some (.int (0 : Int32)), some (.int (-1 : Int32)), some (.int (0 : Int32))]) (And.intro rfl (And.intro rfl (And.intro rfl (And.intro rfl (And.intro rfl trivial))))) ?_
    refine zM_who_l23_ok l x1 J X hw8 _ ?_
    show iq_Gg 8 290 (100, [none, some (.int x1), some (.int w8.1), some (.int w8.2.1), none], [], (iq_sh l, w8.2.2, J, X)) _
    refine iq_G_go (k := 1) (σ' := (101, [none, some (.int x1), some (.int w8.1), some (.int w8.2.1), none], [.int x1], (iq_sh l, w8.2.2, J, X))) (fun _ => rfl) ?_
    rcases iq_ite h with ⟨hc_, h⟩ | ⟨hc_, h⟩
    · refine iq_G_pos (c := ¬ x1 = 0) (σ1 := (108, [none, some (.int x1), some (.int w8.1), some (.int w8.2.1), none], [], (iq_sh l, w8.2.2, J, X))) (fun _ => rfl) hc_ ?_
      refine iq_G_go (k := 1) (σ' := (109, [none, some (.int x1), some (.int w8.1), some (.int w8.2.1), none], [.int w8.2.1], (iq_sh l, w8.2.2, J, X))) (fun _ => rfl) ?_
      cases h
      exact iq_G_ret (fun _ => rfl)
    · refine iq_G_neg (c := ¬ x1 = 0) (σ1 := (104, [none, some (.int x1), some (.int w8.1), some (.int w8.2.1), none], [], (iq_sh l, w8.2.2, J, X))) (fun _ => rfl) hc_ ?_
      refine iq_G_go (k := 2) (σ' := (109, [none, some (.int x1), some (.int w8.1), some (.int w8.2.1), none], [.int w8.1], (iq_sh l, w8.2.2, J, X))) (fun _ => rfl) ?_
      cases h
      exact iq_G_ret (fun _ => rfl)
  · refine iq_G_neg (c := ¬ q2.1 = 0) (σ1 := (14, [some (.ref 76), some (.int x1), none, none, none], [], (iq_sh l, q2.2, J, X))) (fun _ => rfl) hc_ ?_
    refine iq_G_go (k := 1) (σ' := (15, [some (.ref 76), some (.int x1), none, none, none], [.int (0 : Int32)], (iq_sh l, q2.2, J, X))) (fun _ => rfl) ?_
    cases h
    exact iq_G_ret (fun _ => rfl)
set_option maxRecDepth 100000 in
theorem zO_forget_ok (l : Nat)   (I : iq_I) (J : iq_J) (X : iq_X) {q : iq_I} (h : zO_forget I = some q) : iq_Cc 1 172 [.ref 1] (iq_sh l, I, J, X) (.inl none, (iq_sh l, q, J, X)) := by
  refine iq_Cc_of (L := [some (.ref 1)]) rfl rfl ?_
  unfold zO_forget at h
  refine iq_G_go (k := 3) (σ' := (5, [some (.ref 1)], [.int (0 : Int32), .ref 16], (iq_sh l, I, J, X))) (fun _ => rfl) ?_
  refine iq_G_go (k := 1) (σ' := (8, [some (.ref 1)], [], (iq_sh l, (iq_upI I 16 2 (0 : Int32)), J, X))) (fun _ => rfl) ?_
  obtain ⟨I1, eI1, h⟩ := ir_letG h
  rw [← eI1]
  clear eI1
  cases h
  exact iq_G_ret (fun _ => rfl)
set_option maxRecDepth 100000 in
theorem zM_forget_ok (l : Nat)   (I : iq_I) (J : iq_J) (X : iq_X) {q : iq_I} (h : zM_forget I = some q) : iq_Cc 1 288 [.ref 76] (iq_sh l, I, J, X) (.inl none, (iq_sh l, q, J, X)) := by
  refine iq_Cc_of (L := [some (.ref 76)]) rfl rfl ?_
  unfold zM_forget at h
  refine iq_G_go (k := 2) (σ' := (2, [some (.ref 76)], [.int (0 : Int32), .ref 76], (iq_sh l, I, J, X))) (fun _ => rfl) ?_
  refine iq_G_go (k := 1) (σ' := (5, [some (.ref 76)], [], (iq_sh l, (iq_upI I 76 0 (0 : Int32)), J, X))) (fun _ => rfl) ?_
  obtain ⟨I1, eI1, h⟩ := ir_letG h
  rw [← eI1]
  clear eI1
  refine iq_G_go (k := 2) (σ' := (7, [some (.ref 76)], [.int (0 : Int32), .ref 76], (iq_sh l, I1, J, X))) (fun _ => rfl) ?_
  refine iq_G_go (k := 1) (σ' := (10, [some (.ref 76)], [], (iq_sh l, (iq_upI I1 76 63 (0 : Int32)), J, X))) (fun _ => rfl) ?_
  obtain ⟨I2, eI2, h⟩ := ir_letG h
  rw [← eI2]
  clear eI2
  cases h
  exact iq_G_ret (fun _ => rfl)
set_option maxRecDepth 100000 in
theorem zG_witness_ok (l : Nat)  (x1 : Int32) (x2 : Int32) (I : iq_I) (J : iq_J) (X : iq_X) {q : iq_I} (h : zG_witness x1 x2 I = some q) : iq_Cc 1 17 [.ref 16, .int x1, .int x2] (iq_sh l, I, J, X) (.inl none, (iq_sh l, q, J, X)) := by
  refine iq_Cc_of (L := [some (.ref 16), some (.int x1), some (.int x2)]) rfl rfl ?_
  unfold zG_witness at h
  refine iq_G_go (k := 3) (σ' := (5, [some (.ref 16), some (.int x1), some (.int x2)], [.int (3 : Int32), .int (I 16 2)], (iq_sh l, I, J, X))) (fun _ => rfl) ?_
  rcases iq_ite h with ⟨hc_, h⟩ | ⟨hc_, h⟩
  · refine iq_G_pos (c := (3 : Int32) ≤ (I 16 2)) (σ1 := (38, [some (.ref 16), some (.int x1), some (.int x2)], [], (iq_sh l, I, J, X))) (fun _ => rfl) hc_ ?_
    cases h
    exact iq_G_ret (fun _ => rfl)
  · refine iq_G_neg (c := (3 : Int32) ≤ (I 16 2)) (σ1 := (8, [some (.ref 16), some (.int x1), some (.int x2)], [], (iq_sh l, I, J, X))) (fun _ => rfl) hc_ ?_
    refine iq_G_go (k := 5) (σ' := (17, [some (.ref 16), some (.int x1), some (.int x2)], [.int x1, .int (I 16 2), .ref 25], (iq_sh l, I, J, X))) (fun _ => rfl) ?_
    obtain ⟨hc_, h⟩ := iq_itn h
    refine iq_G_pos (c := iq_in (I 16 2) 3) (σ1 := (18, [some (.ref 16), some (.int x1), some (.int x2)], [], (iq_sh l, (iq_upI I 25 (Int32.toNatClampNeg (I 16 2)) x1), J, X))) (fun _ => rfl) hc_ ?_
    obtain ⟨I1, eI1, h⟩ := ir_letG h
    rw [← eI1]
    clear eI1
    refine iq_G_go (k := 5) (σ' := (27, [some (.ref 16), some (.int x1), some (.int x2)], [.int x2, .int (I1 16 2), .ref 26], (iq_sh l, I1, J, X))) (fun _ => rfl) ?_
    obtain ⟨hc_, h⟩ := iq_itn h
    refine iq_G_pos (c := iq_in (I1 16 2) 3) (σ1 := (28, [some (.ref 16), some (.int x1), some (.int x2)], [], (iq_sh l, (iq_upI I1 26 (Int32.toNatClampNeg (I1 16 2)) x2), J, X))) (fun _ => rfl) hc_ ?_
    obtain ⟨I2, eI2, h⟩ := ir_letG h
    rw [← eI2]
    clear eI2
    refine iq_G_go (k := 5) (σ' := (35, [some (.ref 16), some (.int x1), some (.int x2)], [.int ((I2 16 2) + (1 : Int32)), .ref 16], (iq_sh l, I2, J, X))) (fun _ => rfl) ?_
    refine iq_G_go (k := 1) (σ' := (38, [some (.ref 16), some (.int x1), some (.int x2)], [], (iq_sh l, (iq_upI I2 16 2 ((I2 16 2) + (1 : Int32))), J, X))) (fun _ => rfl) ?_
    obtain ⟨I3, eI3, h⟩ := ir_letG h
    rw [← eI3]
    clear eI3
    cases h
    exact iq_G_ret (fun _ => rfl)
set_option maxRecDepth 100000 in
theorem zO_see_ok (l : Nat)  (x1 : Int32) (x2 : Int32) (I : iq_I) (J : iq_J) (X : iq_X) {q : (Int32 ⊕ Nat) × iq_I × iq_X} (h : zO_see x1 x2 I X = some q) : iq_Cc 2 171 [.ref 1, .int x1, .int x2] (iq_sh l, I, J, X) ((ir_Ri q.1), (iq_sh l, q.2.1, J, q.2.2)) := by
  refine iq_Cc_of (L := [some (.ref 1), some (.int x1), some (.int x2)]) rfl rfl ?_
  unfold zO_see at h
  refine iq_G_go (k := 2) (σ' := (2, [some (.ref 1), some (.int x1), some (.int x2)], [.int x1, .ref 1], (iq_sh l, I, J, X))) (fun _ => rfl) ?_
  obtain ⟨q1, hq1, h⟩ := iq_bnd h
  have hC := (zO_needSaying_ok l x1 I J X hq1)
  rcases iq_smc h with ⟨a2, ha, h⟩ | ⟨k3, ha, h⟩
  · rw [ha] at hC
    refine iq_G_call (σ' := (5, [some (.ref 1), some (.int x1), some (.int x2)], [], (iq_sh l, I, J, q1.2))) (fun _ => rfl) hC rfl rfl ?_
    refine iq_G_go (k := 2) (σ' := (7, [some (.ref 1), some (.int x1), some (.int x2)], [.int x2, .ref 1], (iq_sh l, I, J, q1.2))) (fun _ => rfl) ?_
    obtain ⟨q4, hq4, h⟩ := iq_bnd h
    have hC := (zO_needWord_ok l x2 I J q1.2 hq4)
    rcases iq_smc h with ⟨a5, ha, h⟩ | ⟨k6, ha, h⟩
    · rw [ha] at hC
      refine iq_G_call (σ' := (10, [some (.ref 1), some (.int x1), some (.int x2)], [], (iq_sh l, I, J, q4.2))) (fun _ => rfl) hC rfl rfl ?_
      refine iq_G_go (k := 4) (σ' := (18, [some (.ref 1), some (.int x1), some (.int x2)], [.int (3 : Int32), .int (I 16 2)], (iq_sh l, I, J, q4.2))) (fun _ => rfl) ?_
      rcases iq_ite h with ⟨hc_, h⟩ | ⟨hc_, h⟩
      · refine iq_G_pos (c := (I 16 2) < (3 : Int32)) (σ1 := (33, [some (.ref 1), some (.int x1), some (.int x2)], [], (iq_sh l, I, J, q4.2))) (fun _ => rfl) hc_ ?_
        refine iq_G_go (k := 4) (σ' := (39, [some (.ref 1), some (.int x1), some (.int x2)], [.int x2, .int x1, .ref 16], (iq_sh l, I, J, q4.2))) (fun _ => rfl) ?_
        obtain ⟨q7, hq7, h⟩ := iq_bnd h
        refine iq_G_call (σ' := (42, [some (.ref 1), some (.int x1), some (.int x2)], [], (iq_sh l, q7, J, q4.2))) (fun _ => rfl) (zG_witness_ok l x1 x2 I J q4.2 hq7) rfl rfl ?_
        refine iq_G_go (k := 3) (σ' := (49, [some (.ref 1), some (.int x1), some (.int x2)], [.int (q7 16 2)], (iq_sh l, q7, J, q4.2))) (fun _ => rfl) ?_
        cases h
        exact iq_G_ret (fun _ => rfl)
      · refine iq_G_neg (c := (I 16 2) < (3 : Int32)) (σ1 := (21, [some (.ref 1), some (.int x1), some (.int x2)], [], (iq_sh l, I, J, q4.2))) (fun _ => rfl) hc_ ?_
        refine iq_G_go (k := 4) (σ' := (27, [some (.ref 1), some (.int x1), some (.int x2)], [.int (2 : Int32), .ref 3, .int (2 : Int32), .ref 3], (iq_sh l, I, J, q4.2))) (fun _ => rfl) ?_
        refine iq_G_go (k := 1) (σ' := (28, [some (.ref 1), some (.int x1), some (.int x2)], [.int (I 3 2), .int (2 : Int32), .ref 3], (iq_sh l, I, J, q4.2))) (fun _ => rfl) ?_
        refine iq_G_go (k := 2) (σ' := (30, [some (.ref 1), some (.int x1), some (.int x2)], [.int ((I 3 2) + (1 : Int32)), .int (2 : Int32), .ref 3], (iq_sh l, I, J, q4.2))) (fun _ => rfl) ?_
        refine iq_G_go (k := 1) (σ' := (31, [some (.ref 1), some (.int x1), some (.int x2)], [], (iq_sh l, (iq_upI I 3 2 ((I 3 2) + (1 : Int32))), J, q4.2))) (fun _ => rfl) ?_
        obtain ⟨I8, eI8, h⟩ := ir_letG h
        rw [← eI8]
        clear eI8
        refine iq_G_go (k := 1) (σ' := (32, [some (.ref 1), some (.int x1), some (.int x2)], [.int (-1 : Int32)], (iq_sh l, I8, J, q4.2))) (fun _ => rfl) ?_
        cases h
        exact iq_G_ret (fun _ => rfl)
    · rw [ha] at hC
      cases h
      exact iq_G_callx (fun _ => rfl) hC rfl rfl
  · rw [ha] at hC
    cases h
    exact iq_G_callx (fun _ => rfl) hC rfl rfl
set_option maxRecDepth 100000 in
theorem zL_see_ok (l : Nat)  (x1 : Int32) (x2 : Int32) (I : iq_I) (J : iq_J) (X : iq_X) {q : Int32 × iq_I × iq_J × iq_X} (h : zL_see x1 x2 I J X = some q) : iq_Cc 3 342 [.ref 1, .int x1, .int x2, .ref 114] (iq_sh l, I, J, X) (.inl (some (.int q.1)), (iq_sh l, q.2.1, q.2.2.1, q.2.2.2)) := by
  refine iq_Cc_of (L := [some (.ref 1), some (.int x1), some (.int x2), some (.ref 114), none]) rfl rfl ?_
  unfold zL_see at h
  refine iq_G_go (k := 5) (σ' := (5, [some (.ref 1), some (.int x1), some (.int x2), some (.ref 114), none], [.int x2, .int x1, .ref 1, .int (0 : Int32), .ref 114], (iq_sh l, I, J, X))) (fun _ => rfl) ?_
  obtain ⟨q1, hq1, h⟩ := iq_bnd h
  have hC := (zO_see_ok l x1 x2 I J X hq1)
  rcases iq_smc h with ⟨a2, ha, h⟩ | ⟨k3, ha, h⟩
  · rw [ha] at hC
    refine iq_G_call (σ' := (8, [some (.ref 1), some (.int x1), some (.int x2), some (.ref 114), none], [.int a2, .int (0 : Int32), .ref 114], (iq_sh l, q1.2.1, J, q1.2.2))) (fun _ => rfl) hC rfl rfl ?_
    refine iq_G_go (k := 1) (σ' := (9, [some (.ref 1), some (.int x1), some (.int x2), some (.ref 114), none], [.long (Int32.toInt64 a2), .int (0 : Int32), .ref 114], (iq_sh l, q1.2.1, J, q1.2.2))) (fun _ => rfl) ?_
    refine iq_G_go (k := 1) (σ' := (10, [some (.ref 1), some (.int x1), some (.int x2), some (.ref 114), none], [], (iq_sh l, q1.2.1, (iq_upJ J 114 0 (Int32.toInt64 a2)), q1.2.2))) (fun _ => rfl) ?_
    obtain ⟨J4, eJ4, h⟩ := ir_letG h
    rw [← eJ4]
    clear eJ4
    refine iq_G_go (k := 2) (σ' := (18, [some (.ref 1), some (.int x1), some (.int x2), some (.ref 114), none], [.int (0 : Int32)], (iq_sh l, q1.2.1, J4, q1.2.2))) (fun _ => rfl) ?_
    cases h
    exact iq_G_ret (fun _ => rfl)
  · rw [ha] at hC
    rcases iq_ite h with ⟨e, h⟩ | ⟨_, h⟩
    · subst e
      refine iq_G_call (σ' := (15, [some (.ref 1), some (.int x1), some (.int x2), some (.ref 114), none], [], (iq_sh l, q1.2.1, J, q1.2.2))) (fun _ => rfl) hC rfl rfl ?_
      refine iq_G_go (k := 1) (σ' := (16, [some (.ref 1), some (.int x1), some (.int x2), some (.ref 114), none], [.int (1 : Int32)], (iq_sh l, q1.2.1, J, q1.2.2))) (fun _ => rfl) ?_
      cases h
      exact iq_G_ret (fun _ => rfl)
    · obtain ⟨e, h⟩ := iq_itn h
      cases h
set_option maxRecDepth 100000 in
theorem zM_refuses_ok (l : Nat)  (x1 : Int32) (I : iq_I) (J : iq_J) (X : iq_X) {q : Int32 × iq_I} (h : zM_refuses x1 I = some q) : iq_Cc 1 241 [.ref 76, .int x1] (iq_sh l, I, J, X) (.inl (some (.int q.1)), (iq_sh l, q.2, J, X)) := by
  refine iq_Cc_of (L := [some (.ref 76), some (.int x1)]) rfl rfl ?_
  unfold zM_refuses at h
  refine iq_G_go (k := 4) (σ' := (6, [some (.ref 76), some (.int x1)], [.int x1, .ref 86, .int x1, .ref 86], (iq_sh l, I, J, X))) (fun _ => rfl) ?_
  obtain ⟨hc_, h⟩ := iq_itn h
  refine iq_G_pos (c := iq_in x1 3) (σ1 := (7, [some (.ref 76), some (.int x1)], [.int (I 86 (Int32.toNatClampNeg x1)), .int x1, .ref 86], (iq_sh l, I, J, X))) (fun _ => rfl) hc_ ?_
  refine iq_G_go (k := 2) (σ' := (9, [some (.ref 76), some (.int x1)], [.int ((I 86 (Int32.toNatClampNeg x1)) + (1 : Int32)), .int x1, .ref 86], (iq_sh l, I, J, X))) (fun _ => rfl) ?_
  obtain ⟨hc_, h⟩ := iq_itn h
  refine iq_G_pos (c := iq_in x1 3) (σ1 := (10, [some (.ref 76), some (.int x1)], [], (iq_sh l, (iq_upI I 86 (Int32.toNatClampNeg x1) ((I 86 (Int32.toNatClampNeg x1)) + (1 : Int32))), J, X))) (fun _ => rfl) hc_ ?_
  obtain ⟨I1, eI1, h⟩ := ir_letG h
  rw [← eI1]
  clear eI1
  refine iq_G_go (k := 1) (σ' := (11, [some (.ref 76), some (.int x1)], [.int (-1 : Int32)], (iq_sh l, I1, J, X))) (fun _ => rfl) ?_
  cases h
  exact iq_G_ret (fun _ => rfl)

