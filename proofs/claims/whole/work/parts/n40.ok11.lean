/-! ===== the abstract machine does the same (printed by wip/whole/emitall.py, split.py) ===== -/
set_option maxRecDepth 100000 in
theorem zM_measures_33_ok (l : Nat)  (x1 : Int32) (s1 : Int32) (s2 : Int32) (I : iq_I) (J : iq_J) (X : iq_X)  {q : (Int32 × iq_I) ⊕ (iq_I)} (h : zM_measures_33 x1 s1 s2 I = some q) (r : iq_R × iq_M) (hc : ∀ v, q = .inl v → iq_Gg 1 274 (2, [some (.ref 76), some (.int v.1), none, none], [], (iq_sh l, v.2, J, X)) r) (hx : ∀ w, q = .inr w → iq_Gg 1 274 (40, [some (.ref 76), none, none, none], [], (iq_sh l, w, J, X)) r) : iq_Gg 1 274 (33, [some (.ref 76), some (.int x1), none, none], [.int s2, .int s1, .ref 103], (iq_sh l, I, J, X)) r := by
  unfold zM_measures_33 at h
  obtain ⟨hc_, h⟩ := iq_itn h
  refine iq_G_pos (c := iq_in s1 10) (σ1 := (34, [some (.ref 76), some (.int x1), none, none], [], (iq_sh l, (iq_upI I 103 (Int32.toNatClampNeg s1) s2), J, X))) (fun _ => rfl) hc_ ?_
  obtain ⟨I1, eI1, h⟩ := ir_letG h
  rw [← eI1]
  clear eI1
  refine iq_G_go (k := 2) (σ' := (2, [some (.ref 76), some (.int (x1 + (1 : Int32))), none, none], [], (iq_sh l, I1, J, X))) (fun _ => rfl) ?_
  cases h
  exact iq_G_fg (L := [some (.ref 76), some (.int (x1 + (1 : Int32))), none, none]) (And.intro rfl (And.intro rfl trivial)) (hc ((x1 + (1 : Int32)), I1) rfl)
set_option maxRecDepth 100000 in
theorem zM_measures_l2_bok (l : Nat)   (J : iq_J) (X : iq_X) (x1 : Int32) (I : iq_I) {q : (Int32 × iq_I) ⊕ (iq_I)} (h : zM_measures_l2_b  x1 I = some q) (r : iq_R × iq_M) (hc : ∀ v, q = .inl v → iq_Gg 1 274 (2, [some (.ref 76), some (.int v.1), none, none], [], (iq_sh l, v.2, J, X)) r) (hx : ∀ w, q = .inr w → iq_Gg 1 274 (40, [some (.ref 76), none, none, none], [], (iq_sh l, w, J, X)) r) : iq_Gg 1 274 (2, [some (.ref 76), some (.int x1), none, none], [], (iq_sh l, I, J, X)) r := by
  unfold zM_measures_l2_b at h
  refine iq_G_go (k := 3) (σ' := (7, [some (.ref 76), some (.int x1), none, none], [.int (I 76 1), .int x1], (iq_sh l, I, J, X))) (fun _ => rfl) ?_
  rcases iq_ite h with ⟨hc_, h⟩ | ⟨hc_, h⟩
  · refine iq_G_pos (c := (I 76 1) ≤ x1) (σ1 := (40, [some (.ref 76), some (.int x1), none, none], [], (iq_sh l, I, J, X))) (fun _ => rfl) hc_ ?_
    cases h
    exact iq_G_fg (L := [some (.ref 76), none, none, none]) (And.intro rfl trivial) (hx I rfl)
  · refine iq_G_neg (c := (I 76 1) ≤ x1) (σ1 := (10, [some (.ref 76), some (.int x1), none, none], [], (iq_sh l, I, J, X))) (fun _ => rfl) hc_ ?_
    refine iq_G_go (k := 10) (σ' := (24, [some (.ref 76), some (.int x1), none, none], [.int (1 : Int32), .int (((I 76 7) >>> (x1 &&& 31)) &&& (1 : Int32)), .int x1, .ref 103], (iq_sh l, I, J, X))) (fun _ => rfl) ?_
    rcases iq_ite h with ⟨hc_, h⟩ | ⟨hc_, h⟩
    · refine iq_G_pos (c := ¬ (((I 76 7) >>> (x1 &&& 31)) &&& (1 : Int32)) = (1 : Int32)) (σ1 := (31, [some (.ref 76), some (.int x1), none, none], [.int x1, .ref 103], (iq_sh l, I, J, X))) (fun _ => rfl) hc_ ?_
      refine iq_G_go (k := 1) (σ' := (33, [some (.ref 76), some (.int x1), none, none], [.int (99 : Int32), .int x1, .ref 103], (iq_sh l, I, J, X))) (fun _ => rfl) ?_
      exact iq_G_fg (L := [some (.ref 76), some (.int x1), none, none]) (And.intro rfl (And.intro rfl trivial)) (zM_measures_33_ok l x1 x1 (99 : Int32) I J X  h r hc hx)
    · refine iq_G_neg (c := ¬ (((I 76 7) >>> (x1 &&& 31)) &&& (1 : Int32)) = (1 : Int32)) (σ1 := (27, [some (.ref 76), some (.int x1), none, none], [.int x1, .ref 103], (iq_sh l, I, J, X))) (fun _ => rfl) hc_ ?_
      refine iq_G_go (k := 2) (σ' := (33, [some (.ref 76), some (.int x1), none, none], [.int (0 : Int32), .int x1, .ref 103], (iq_sh l, I, J, X))) (fun _ => rfl) ?_
      exact iq_G_fg (L := [some (.ref 76), some (.int x1), none, none]) (And.intro rfl (And.intro rfl trivial)) (zM_measures_33_ok l x1 x1 (0 : Int32) I J X  h r hc hx)
set_option maxRecDepth 100000 in
theorem zM_measures_l2_ok (l : Nat)   (J : iq_J) (X : iq_X) {n : Nat} {v : Int32 × iq_I} {w : iq_I} (h : zM_measures_l2  n v = some w) (r : iq_R × iq_M) (hq : iq_Gg 1 274 (40, [some (.ref 76), none, none, none], [], (iq_sh l, w, J, X)) r) : iq_Gg 1 274 (2, [some (.ref 76), some (.int v.1), none, none], [], (iq_sh l, v.2, J, X)) r :=
  iq_lp_ok (σ := fun v => (2, [some (.ref 76), some (.int v.1), none, none], [], (iq_sh l, v.2, J, X))) (Q := fun w r => iq_Gg 1 274 (40, [some (.ref 76), none, none, none], [], (iq_sh l, w, J, X)) r) (fun v q hv r h1 h2 => zM_measures_l2_bok l J X v.1 v.2 hv r h1 h2) h r hq
set_option maxRecDepth 100000 in
theorem zM_measures_l62_bok (l : Nat)  (x1 : Int32) (x2 : Int32) (J : iq_J) (X : iq_X) (x3 : Int32) (I : iq_I) {q : (Int32 × iq_I) ⊕ (iq_I)} (h : zM_measures_l62_b x1 x2 x3 I = some q) (r : iq_R × iq_M) (hc : ∀ v, q = .inl v → iq_Gg 1 274 (62, [some (.ref 76), some (.int x1), some (.int x2), some (.int v.1)], [], (iq_sh l, v.2, J, X)) r) (hx : ∀ w, q = .inr w → iq_Gg 1 274 (127, [some (.ref 76), some (.int x1), some (.int x2), none], [], (iq_sh l, w, J, X)) r) : iq_Gg 1 274 (62, [some (.ref 76), some (.int x1), some (.int x2), some (.int x3)], [], (iq_sh l, I, J, X)) r := by
  unfold zM_measures_l62_b at h
  refine iq_G_go (k := 3) (σ' := (67, [some (.ref 76), some (.int x1), some (.int x2), some (.int x3)], [.int (I 76 2), .int x3], (iq_sh l, I, J, X))) (fun _ => rfl) ?_
  rcases iq_ite h with ⟨hc_, h⟩ | ⟨hc_, h⟩
  · refine iq_G_pos (c := (I 76 2) ≤ x3) (σ1 := (127, [some (.ref 76), some (.int x1), some (.int x2), some (.int x3)], [], (iq_sh l, I, J, X))) (fun _ => rfl) hc_ ?_
    cases h
    exact iq_G_fg (L := [some (.ref 76), some (.int x1), some (.int x2), none]) (And.intro rfl (And.intro rfl (And.intro rfl trivial))) (hx I rfl)
  · refine iq_G_neg (c := (I 76 2) ≤ x3) (σ1 := (70, [some (.ref 76), some (.int x1), some (.int x2), some (.int x3)], [], (iq_sh l, I, J, X))) (fun _ => rfl) hc_ ?_
    refine iq_G_go (k := 3) (σ' := (73, [some (.ref 76), some (.int x1), some (.int x2), some (.int x3)], [.int x3, .int x2, .ref 76], (iq_sh l, I, J, X))) (fun _ => rfl) ?_
    obtain ⟨q3, hq3, h⟩ := iq_bnd h
    refine iq_G_call (σ' := (76, [some (.ref 76), some (.int x1), some (.int x2), some (.int x3)], [.int q3], (iq_sh l, I, J, X))) (fun _ => rfl) (zM_leads_ok l x2 x3 I J X hq3) rfl rfl ?_
    refine iq_G_go (k := 1) (σ' := (77, [some (.ref 76), some (.int x1), some (.int x2), some (.int x3)], [.int (-1 : Int32), .int q3], (iq_sh l, I, J, X))) (fun _ => rfl) ?_
    rcases iq_ite h with ⟨hc_, h⟩ | ⟨hc_, h⟩
    · refine iq_G_pos (c := q3 = (-1 : Int32)) (σ1 := (121, [some (.ref 76), some (.int x1), some (.int x2), some (.int x3)], [], (iq_sh l, I, J, X))) (fun _ => rfl) hc_ ?_
      refine iq_G_go (k := 2) (σ' := (62, [some (.ref 76), some (.int x1), some (.int x2), some (.int (x3 + (1 : Int32)))], [], (iq_sh l, I, J, X))) (fun _ => rfl) ?_
      cases h
      exact iq_G_fg (L := [some (.ref 76), some (.int x1), some (.int x2), some (.int (x3 + (1 : Int32)))]) (And.intro rfl (And.intro rfl (And.intro rfl (And.intro rfl trivial)))) (hc ((x3 + (1 : Int32)), I) rfl)
    · refine iq_G_neg (c := q3 = (-1 : Int32)) (σ1 := (80, [some (.ref 76), some (.int x1), some (.int x2), some (.int x3)], [], (iq_sh l, I, J, X))) (fun _ => rfl) hc_ ?_
      refine iq_G_go (k := 5) (σ' := (87, [some (.ref 76), some (.int x1), some (.int x2), some (.int x3)], [.int x3, .int x2, .ref 76, .ref 103], (iq_sh l, I, J, X))) (fun _ => rfl) ?_
      obtain ⟨q4, hq4, h⟩ := iq_bnd h
      refine iq_G_call (σ' := (90, [some (.ref 76), some (.int x1), some (.int x2), some (.int x3)], [.int q4, .ref 103], (iq_sh l, I, J, X))) (fun _ => rfl) (zM_leads_ok l x2 x3 I J X hq4) rfl rfl ?_
      obtain ⟨hc_, h⟩ := iq_itn h
      refine iq_G_pos (c := iq_in q4 10) (σ1 := (91, [some (.ref 76), some (.int x1), some (.int x2), some (.int x3)], [.int (I 103 (Int32.toNatClampNeg q4))], (iq_sh l, I, J, X))) (fun _ => rfl) hc_ ?_
      refine iq_G_go (k := 5) (σ' := (98, [some (.ref 76), some (.int x1), some (.int x2), some (.int x3)], [.int x2, .ref 103, .int ((I 103 (Int32.toNatClampNeg q4)) + (1 : Int32))], (iq_sh l, I, J, X))) (fun _ => rfl) ?_
      obtain ⟨hc_, h⟩ := iq_itn h
      refine iq_G_pos (c := iq_in x2 10) (σ1 := (99, [some (.ref 76), some (.int x1), some (.int x2), some (.int x3)], [.int (I 103 (Int32.toNatClampNeg x2)), .int ((I 103 (Int32.toNatClampNeg q4)) + (1 : Int32))], (iq_sh l, I, J, X))) (fun _ => rfl) hc_ ?_
      rcases iq_ite h with ⟨hc_, h⟩ | ⟨hc_, h⟩
      · refine iq_G_pos (c := (I 103 (Int32.toNatClampNeg x2)) ≤ ((I 103 (Int32.toNatClampNeg q4)) + (1 : Int32))) (σ1 := (121, [some (.ref 76), some (.int x1), some (.int x2), some (.int x3)], [], (iq_sh l, I, J, X))) (fun _ => rfl) hc_ ?_
        refine iq_G_go (k := 2) (σ' := (62, [some (.ref 76), some (.int x1), some (.int x2), some (.int (x3 + (1 : Int32)))], [], (iq_sh l, I, J, X))) (fun _ => rfl) ?_
        cases h
        exact iq_G_fg (L := [some (.ref 76), some (.int x1), some (.int x2), some (.int (x3 + (1 : Int32)))]) (And.intro rfl (And.intro rfl (And.intro rfl (And.intro rfl trivial)))) (hc ((x3 + (1 : Int32)), I) rfl)
      · refine iq_G_neg (c := (I 103 (Int32.toNatClampNeg x2)) ≤ ((I 103 (Int32.toNatClampNeg q4)) + (1 : Int32))) (σ1 := (102, [some (.ref 76), some (.int x1), some (.int x2), some (.int x3)], [], (iq_sh l, I, J, X))) (fun _ => rfl) hc_ ?_
        refine iq_G_go (k := 8) (σ' := (114, [some (.ref 76), some (.int x1), some (.int x2), some (.int x3)], [.int x3, .int x2, .ref 76, .ref 103, .int x2, .ref 103], (iq_sh l, I, J, X))) (fun _ => rfl) ?_
        obtain ⟨q5, hq5, h⟩ := iq_bnd h
        refine iq_G_call (σ' := (117, [some (.ref 76), some (.int x1), some (.int x2), some (.int x3)], [.int q5, .ref 103, .int x2, .ref 103], (iq_sh l, I, J, X))) (fun _ => rfl) (zM_leads_ok l x2 x3 I J X hq5) rfl rfl ?_
        obtain ⟨hc_, h⟩ := iq_itn h
        refine iq_G_pos (c := iq_in q5 10) (σ1 := (118, [some (.ref 76), some (.int x1), some (.int x2), some (.int x3)], [.int (I 103 (Int32.toNatClampNeg q5)), .int x2, .ref 103], (iq_sh l, I, J, X))) (fun _ => rfl) hc_ ?_
        refine iq_G_go (k := 2) (σ' := (120, [some (.ref 76), some (.int x1), some (.int x2), some (.int x3)], [.int ((I 103 (Int32.toNatClampNeg q5)) + (1 : Int32)), .int x2, .ref 103], (iq_sh l, I, J, X))) (fun _ => rfl) ?_
        obtain ⟨hc_, h⟩ := iq_itn h
        refine iq_G_pos (c := iq_in x2 10) (σ1 := (121, [some (.ref 76), some (.int x1), some (.int x2), some (.int x3)], [], (iq_sh l, (iq_upI I 103 (Int32.toNatClampNeg x2) ((I 103 (Int32.toNatClampNeg q5)) + (1 : Int32))), J, X))) (fun _ => rfl) hc_ ?_
        obtain ⟨I6, eI6, h⟩ := ir_letG h
        rw [← eI6]
        clear eI6
        refine iq_G_go (k := 2) (σ' := (62, [some (.ref 76), some (.int x1), some (.int x2), some (.int (x3 + (1 : Int32)))], [], (iq_sh l, I6, J, X))) (fun _ => rfl) ?_
        cases h
        exact iq_G_fg (L := [some (.ref 76), some (.int x1), some (.int x2), some (.int (x3 + (1 : Int32)))]) (And.intro rfl (And.intro rfl (And.intro rfl (And.intro rfl trivial)))) (hc ((x3 + (1 : Int32)), I6) rfl)
set_option maxRecDepth 100000 in
theorem zM_measures_l62_ok (l : Nat)  (x1 : Int32) (x2 : Int32) (J : iq_J) (X : iq_X) {n : Nat} {v : Int32 × iq_I} {w : iq_I} (h : zM_measures_l62 x1 x2 n v = some w) (r : iq_R × iq_M) (hq : iq_Gg 1 274 (127, [some (.ref 76), some (.int x1), some (.int x2), none], [], (iq_sh l, w, J, X)) r) : iq_Gg 1 274 (62, [some (.ref 76), some (.int x1), some (.int x2), some (.int v.1)], [], (iq_sh l, v.2, J, X)) r :=
  iq_lp_ok (σ := fun v => (62, [some (.ref 76), some (.int x1), some (.int x2), some (.int v.1)], [], (iq_sh l, v.2, J, X))) (Q := fun w r => iq_Gg 1 274 (127, [some (.ref 76), some (.int x1), some (.int x2), none], [], (iq_sh l, w, J, X)) r) (fun v q hv r h1 h2 => zM_measures_l62_bok l x1 x2 J X v.1 v.2 hv r h1 h2) h r hq
set_option maxRecDepth 100000 in
theorem zM_measures_l52_bok (l : Nat)  (x1 : Int32) (J : iq_J) (X : iq_X) (x2 : Int32) (I : iq_I) {q : (Int32 × iq_I) ⊕ (iq_I)} (h : zM_measures_l52_b x1 x2 I = some q) (r : iq_R × iq_M) (hc : ∀ v, q = .inl v → iq_Gg 1 274 (52, [some (.ref 76), some (.int x1), some (.int v.1), none], [], (iq_sh l, v.2, J, X)) r) (hx : ∀ w, q = .inr w → iq_Gg 1 274 (133, [some (.ref 76), some (.int x1), none, none], [], (iq_sh l, w, J, X)) r) : iq_Gg 1 274 (52, [some (.ref 76), some (.int x1), some (.int x2), none], [], (iq_sh l, I, J, X)) r := by
  unfold zM_measures_l52_b at h
  refine iq_G_go (k := 3) (σ' := (57, [some (.ref 76), some (.int x1), some (.int x2), none], [.int (I 76 1), .int x2], (iq_sh l, I, J, X))) (fun _ => rfl) ?_
  rcases iq_ite h with ⟨hc_, h⟩ | ⟨hc_, h⟩
  · refine iq_G_pos (c := (I 76 1) ≤ x2) (σ1 := (133, [some (.ref 76), some (.int x1), some (.int x2), none], [], (iq_sh l, I, J, X))) (fun _ => rfl) hc_ ?_
    cases h
    exact iq_G_fg (L := [some (.ref 76), some (.int x1), none, none]) (And.intro rfl (And.intro rfl trivial)) (hx I rfl)
  · refine iq_G_neg (c := (I 76 1) ≤ x2) (σ1 := (60, [some (.ref 76), some (.int x1), some (.int x2), none], [], (iq_sh l, I, J, X))) (fun _ => rfl) hc_ ?_
    refine iq_G_go (k := 2) (σ' := (62, [some (.ref 76), some (.int x1), some (.int x2), some (.int (0 : Int32))], [], (iq_sh l, I, J, X))) (fun _ => rfl) ?_
    obtain ⟨w7, hw7, h⟩ := iq_bnd h
    refine iq_G_fg (L := [some (.ref 76), some (.int x1), some (.int x2), some (.int (0 : Int32))]) (And.intro rfl (And.intro rfl (And.intro rfl (And.intro rfl trivial)))) ?_
    refine zM_measures_l62_ok l x1 x2 J X hw7 _ ?_
    show iq_Gg 1 274 (127, [some (.ref 76), some (.int x1), some (.int x2), none], [], (iq_sh l, w7, J, X)) _
    refine iq_G_go (k := 2) (σ' := (52, [some (.ref 76), some (.int x1), some (.int (x2 + (1 : Int32))), none], [], (iq_sh l, w7, J, X))) (fun _ => rfl) ?_
    cases h
    exact iq_G_fg (L := [some (.ref 76), some (.int x1), some (.int (x2 + (1 : Int32))), none]) (And.intro rfl (And.intro rfl (And.intro rfl trivial))) (hc ((x2 + (1 : Int32)), w7) rfl)
set_option maxRecDepth 100000 in
theorem zM_measures_l52_ok (l : Nat)  (x1 : Int32) (J : iq_J) (X : iq_X) {n : Nat} {v : Int32 × iq_I} {w : iq_I} (h : zM_measures_l52 x1 n v = some w) (r : iq_R × iq_M) (hq : iq_Gg 1 274 (133, [some (.ref 76), some (.int x1), none, none], [], (iq_sh l, w, J, X)) r) : iq_Gg 1 274 (52, [some (.ref 76), some (.int x1), some (.int v.1), none], [], (iq_sh l, v.2, J, X)) r :=
  iq_lp_ok (σ := fun v => (52, [some (.ref 76), some (.int x1), some (.int v.1), none], [], (iq_sh l, v.2, J, X))) (Q := fun w r => iq_Gg 1 274 (133, [some (.ref 76), some (.int x1), none, none], [], (iq_sh l, w, J, X)) r) (fun v q hv r h1 h2 => zM_measures_l52_bok l x1 J X v.1 v.2 hv r h1 h2) h r hq
set_option maxRecDepth 100000 in
theorem zM_measures_l42_bok (l : Nat)   (J : iq_J) (X : iq_X) (x1 : Int32) (I : iq_I) {q : (Int32 × iq_I) ⊕ (iq_I)} (h : zM_measures_l42_b  x1 I = some q) (r : iq_R × iq_M) (hc : ∀ v, q = .inl v → iq_Gg 1 274 (42, [some (.ref 76), some (.int v.1), none, none], [], (iq_sh l, v.2, J, X)) r) (hx : ∀ w, q = .inr w → iq_Gg 1 274 (139, [none, none, none, none], [], (iq_sh l, w, J, X)) r) : iq_Gg 1 274 (42, [some (.ref 76), some (.int x1), none, none], [], (iq_sh l, I, J, X)) r := by
  unfold zM_measures_l42_b at h
  refine iq_G_go (k := 3) (σ' := (47, [some (.ref 76), some (.int x1), none, none], [.int (I 76 1), .int x1], (iq_sh l, I, J, X))) (fun _ => rfl) ?_
  rcases iq_ite h with ⟨hc_, h⟩ | ⟨hc_, h⟩
  · refine iq_G_pos (c := (I 76 1) ≤ x1) (σ1 := (139, [some (.ref 76), some (.int x1), none, none], [], (iq_sh l, I, J, X))) (fun _ => rfl) hc_ ?_
    cases h
    exact iq_G_fg (L := [none, none, none, none]) trivial (hx I rfl)
  · refine iq_G_neg (c := (I 76 1) ≤ x1) (σ1 := (50, [some (.ref 76), some (.int x1), none, none], [], (iq_sh l, I, J, X))) (fun _ => rfl) hc_ ?_
    refine iq_G_go (k := 2) (σ' := (52, [some (.ref 76), some (.int x1), some (.int (0 : Int32)), none], [], (iq_sh l, I, J, X))) (fun _ => rfl) ?_
    obtain ⟨w8, hw8, h⟩ := iq_bnd h
    refine iq_G_fg (L := [some (.ref 76), some (.int x1), some (.int (0 : Int32)), none]) (And.intro rfl (And.intro rfl (And.intro rfl trivial))) ?_
    refine zM_measures_l52_ok l x1 J X hw8 _ ?_
    show iq_Gg 1 274 (133, [some (.ref 76), some (.int x1), none, none], [], (iq_sh l, w8, J, X)) _
    refine iq_G_go (k := 2) (σ' := (42, [some (.ref 76), some (.int (x1 + (1 : Int32))), none, none], [], (iq_sh l, w8, J, X))) (fun _ => rfl) ?_
    cases h
    exact iq_G_fg (L := [some (.ref 76), some (.int (x1 + (1 : Int32))), none, none]) (And.intro rfl (And.intro rfl trivial)) (hc ((x1 + (1 : Int32)), w8) rfl)
set_option maxRecDepth 100000 in
theorem zM_measures_l42_ok (l : Nat)   (J : iq_J) (X : iq_X) {n : Nat} {v : Int32 × iq_I} {w : iq_I} (h : zM_measures_l42  n v = some w) (r : iq_R × iq_M) (hq : iq_Gg 1 274 (139, [none, none, none, none], [], (iq_sh l, w, J, X)) r) : iq_Gg 1 274 (42, [some (.ref 76), some (.int v.1), none, none], [], (iq_sh l, v.2, J, X)) r :=
  iq_lp_ok (σ := fun v => (42, [some (.ref 76), some (.int v.1), none, none], [], (iq_sh l, v.2, J, X))) (Q := fun w r => iq_Gg 1 274 (139, [none, none, none, none], [], (iq_sh l, w, J, X)) r) (fun v q hv r h1 h2 => zM_measures_l42_bok l J X v.1 v.2 hv r h1 h2) h r hq
set_option maxRecDepth 100000 in
theorem zM_measures_ok (l : Nat)   (I : iq_I) (J : iq_J) (X : iq_X) {q : iq_I} (h : zM_measures I = some q) : iq_Cc 2 274 [.ref 76] (iq_sh l, I, J, X) (.inl none, (iq_sh l, q, J, X)) := by
  refine iq_Cc_of (L := [some (.ref 76), none, none, none]) rfl rfl ?_
  unfold zM_measures at h
  refine iq_G_go (k := 2) (σ' := (2, [some (.ref 76), some (.int (0 : Int32)), none, none], [], (iq_sh l, I, J, X))) (fun _ => rfl) ?_
  obtain ⟨w2, hw2, h⟩ := iq_bnd h
  refine iq_G_fg (L := [some (.ref 76), some (.int (0 : Int32)), none, none]) (And.intro rfl (And.intro rfl trivial)) ?_
  refine zM_measures_l2_ok l J X hw2 _ ?_
  show iq_Gg 1 274 (40, [some (.ref 76), none, none, none], [], (iq_sh l, w2, J, X)) _
  refine iq_G_go (k := 2) (σ' := (42, [some (.ref 76), some (.int (0 : Int32)), none, none], [], (iq_sh l, w2, J, X))) (fun _ => rfl) ?_
  obtain ⟨w9, hw9, h⟩ := iq_bnd h
  refine iq_G_fg (L := [some (.ref 76), some (.int (0 : Int32)), none, none]) (And.intro rfl (And.intro rfl trivial)) ?_
  refine zM_measures_l42_ok l J X hw9 _ ?_
  show iq_Gg 1 274 (139, [none, none, none, none], [], (iq_sh l, w9, J, X)) _
  cases h
  exact iq_G_ret (fun _ => rfl)
set_option maxRecDepth 100000 in
theorem zM_soonest_l88_bok (l : Nat)  (x2 : Int32) (x3 : Int32) (x5 : Int32) (I : iq_I) (J : iq_J) (X : iq_X) (x6 : Int32)  {q : (Int32) ⊕ (Int32)} (h : zM_soonest_l88_b x2 x3 x5 I x6 = some q) (r : iq_R × iq_M) (hc : ∀ v, q = .inl v → iq_Gg 2 275 (88, [some (.ref 76), none, some (.int x2), some (.int x3), none, some (.int x5), some (.int v)], [], (iq_sh l, I, J, X)) r) (hx : ∀ w, q = .inr w → iq_Gg 2 275 (128, [some (.ref 76), none, some (.int x2), some (.int x3), none, some (.int x5), some (.int w)], [], (iq_sh l, I, J, X)) r) : iq_Gg 2 275 (88, [some (.ref 76), none, some (.int x2), some (.int x3), none, some (.int x5), some (.int x6)], [], (iq_sh l, I, J, X)) r := by
  unfold zM_soonest_l88_b at h
  refine iq_G_go (k := 3) (σ' := (92, [some (.ref 76), none, some (.int x2), some (.int x3), none, some (.int x5), some (.int x6)], [.int x6, .int x3, .ref 76], (iq_sh l, I, J, X))) (fun _ => rfl) ?_
  obtain ⟨q5, hq5, h⟩ := iq_bnd h
  refine iq_G_call (σ' := (95, [some (.ref 76), none, some (.int x2), some (.int x3), none, some (.int x5), some (.int x6)], [.int q5], (iq_sh l, I, J, X))) (fun _ => rfl) (zM_leads_ok l x3 x6 I J X hq5) rfl rfl ?_
  refine iq_G_go (k := 1) (σ' := (96, [some (.ref 76), none, some (.int x2), some (.int x3), none, some (.int x5), some (.int x6)], [.int (-1 : Int32), .int q5], (iq_sh l, I, J, X))) (fun _ => rfl) ?_
  rcases iq_ite h with ⟨hc_, h⟩ | ⟨hc_, h⟩
  · refine iq_G_pos (c := q5 = (-1 : Int32)) (σ1 := (122, [some (.ref 76), none, some (.int x2), some (.int x3), none, some (.int x5), some (.int x6)], [], (iq_sh l, I, J, X))) (fun _ => rfl) hc_ ?_
    refine iq_G_go (k := 2) (σ' := (88, [some (.ref 76), none, some (.int x2), some (.int x3), none, some (.int x5), some (.int (x6 + (1 : Int32)))], [], (iq_sh l, I, J, X))) (fun _ => rfl) ?_
    cases h
    exact iq_G_fg (L := [some (.ref 76), none, some (.int x2), some (.int x3), none, some (.int x5), some (.int (x6 + (1 : Int32)))]) (And.intro rfl (And.intro rfl (And.intro rfl (And.intro rfl (And.intro rfl trivial))))) (hc (x6 + (1 : Int32)) rfl)
  · refine iq_G_neg (c := q5 = (-1 : Int32)) (σ1 := (99, [some (.ref 76), none, some (.int x2), some (.int x3), none, some (.int x5), some (.int x6)], [], (iq_sh l, I, J, X))) (fun _ => rfl) hc_ ?_
    refine iq_G_go (k := 5) (σ' := (107, [some (.ref 76), none, some (.int x2), some (.int x3), none, some (.int x5), some (.int x6)], [.int x6, .int x3, .ref 76, .ref 103], (iq_sh l, I, J, X))) (fun _ => rfl) ?_
    obtain ⟨q6, hq6, h⟩ := iq_bnd h
    refine iq_G_call (σ' := (110, [some (.ref 76), none, some (.int x2), some (.int x3), none, some (.int x5), some (.int x6)], [.int q6, .ref 103], (iq_sh l, I, J, X))) (fun _ => rfl) (zM_leads_ok l x3 x6 I J X hq6) rfl rfl ?_
    obtain ⟨hc_, h⟩ := iq_itn h
    refine iq_G_pos (c := iq_in q6 10) (σ1 := (111, [some (.ref 76), none, some (.int x2), some (.int x3), none, some (.int x5), some (.int x6)], [.int (I 103 (Int32.toNatClampNeg q6))], (iq_sh l, I, J, X))) (fun _ => rfl) hc_ ?_
    refine iq_G_go (k := 5) (σ' := (118, [some (.ref 76), none, some (.int x2), some (.int x3), none, some (.int x5), some (.int x6)], [.int x3, .ref 103, .int ((I 103 (Int32.toNatClampNeg q6)) + (1 : Int32))], (iq_sh l, I, J, X))) (fun _ => rfl) ?_
    obtain ⟨hc_, h⟩ := iq_itn h
    refine iq_G_pos (c := iq_in x3 10) (σ1 := (119, [some (.ref 76), none, some (.int x2), some (.int x3), none, some (.int x5), some (.int x6)], [.int (I 103 (Int32.toNatClampNeg x3)), .int ((I 103 (Int32.toNatClampNeg q6)) + (1 : Int32))], (iq_sh l, I, J, X))) (fun _ => rfl) hc_ ?_
    rcases iq_ite h with ⟨hc_, h⟩ | ⟨hc_, h⟩
    · refine iq_G_pos (c := ((I 103 (Int32.toNatClampNeg q6)) + (1 : Int32)) = (I 103 (Int32.toNatClampNeg x3))) (σ1 := (128, [some (.ref 76), none, some (.int x2), some (.int x3), none, some (.int x5), some (.int x6)], [], (iq_sh l, I, J, X))) (fun _ => rfl) hc_ ?_
      cases h
      exact iq_G_fg (L := [some (.ref 76), none, some (.int x2), some (.int x3), none, some (.int x5), some (.int x6)]) (And.intro rfl (And.intro rfl (And.intro rfl (And.intro rfl (And.intro rfl trivial))))) (hx x6 rfl)
    · refine iq_G_neg (c := ((I 103 (Int32.toNatClampNeg q6)) + (1 : Int32)) = (I 103 (Int32.toNatClampNeg x3))) (σ1 := (122, [some (.ref 76), none, some (.int x2), some (.int x3), none, some (.int x5), some (.int x6)], [], (iq_sh l, I, J, X))) (fun _ => rfl) hc_ ?_
      refine iq_G_go (k := 2) (σ' := (88, [some (.ref 76), none, some (.int x2), some (.int x3), none, some (.int x5), some (.int (x6 + (1 : Int32)))], [], (iq_sh l, I, J, X))) (fun _ => rfl) ?_
      cases h
      exact iq_G_fg (L := [some (.ref 76), none, some (.int x2), some (.int x3), none, some (.int x5), some (.int (x6 + (1 : Int32)))]) (And.intro rfl (And.intro rfl (And.intro rfl (And.intro rfl (And.intro rfl trivial))))) (hc (x6 + (1 : Int32)) rfl)
set_option maxRecDepth 100000 in
theorem zM_soonest_l88_ok (l : Nat)  (x2 : Int32) (x3 : Int32) (x5 : Int32) (I : iq_I) (J : iq_J) (X : iq_X) {n : Nat} {v : Int32} {w : Int32} (h : zM_soonest_l88 x2 x3 x5 I n v = some w) (r : iq_R × iq_M) (hq : iq_Gg 2 275 (128, [some (.ref 76), none, some (.int x2), some (.int x3), none, some (.int x5), some (.int w)], [], (iq_sh l, I, J, X)) r) : iq_Gg 2 275 (88, [some (.ref 76), none, some (.int x2), some (.int x3), none, some (.int x5), some (.int v)], [], (iq_sh l, I, J, X)) r :=
  iq_lp_ok (σ := fun v => (88, [some (.ref 76), none, some (.int x2), some (.int x3), none, some (.int x5), some (.int v)], [], (iq_sh l, I, J, X))) (Q := fun w r => iq_Gg 2 275 (128, [some (.ref 76), none, some (.int x2), some (.int x3), none, some (.int x5), some (.int w)], [], (iq_sh l, I, J, X)) r) (fun v q hv r h1 h2 => zM_soonest_l88_bok l x2 x3 x5 I J X v hv r h1 h2) h r hq
set_option maxRecDepth 100000 in
theorem zM_soonest_l70_bok (l : Nat)  (x2 : Int32) (I : iq_I) (J : iq_J) (X : iq_X) (x3 : Int32) (x5 : Int32)  {q : (Int32 × Int32) ⊕ ((Unit) ⊕ (Int32 × iq_I))} (h : zM_soonest_l70_b x2 I x3 x5 = some q) (r : iq_R × iq_M) (hc : ∀ v, q = .inl v → iq_Gg 2 275 (70, [some (.ref 76), none, some (.int x2), some (.int v.1), none, some (.int v.2), none], [], (iq_sh l, I, J, X)) r) (hx : ∀ w, q = .inr w → (∀ a, w = .inl a → iq_Gg 2 275 (155, [none, none, none, none, none, none, none], [], (iq_sh l, I, J, X)) r) ∧ (∀ b, w = .inr b → r = (.inl (some (.int b.1)), (iq_sh l, b.2, J, X)))) : iq_Gg 2 275 (70, [some (.ref 76), none, some (.int x2), some (.int x3), none, some (.int x5), none], [], (iq_sh l, I, J, X)) r := by
  unfold zM_soonest_l70_b at h
  refine iq_G_go (k := 2) (σ' := (73, [some (.ref 76), none, some (.int x2), some (.int x3), none, some (.int x5), none], [.int x2, .int x5], (iq_sh l, I, J, X))) (fun _ => rfl) ?_
  rcases iq_ite h with ⟨hc_, h⟩ | ⟨hc_, h⟩
  · refine iq_G_pos (c := x2 < x5) (σ1 := (155, [some (.ref 76), none, some (.int x2), some (.int x3), none, some (.int x5), none], [], (iq_sh l, I, J, X))) (fun _ => rfl) hc_ ?_
    cases h
    exact iq_G_fg (L := [none, none, none, none, none, none, none]) trivial ((hx (.inl ()) rfl).1 () rfl)
  · refine iq_G_neg (c := x2 < x5) (σ1 := (76, [some (.ref 76), none, some (.int x2), some (.int x3), none, some (.int x5), none], [], (iq_sh l, I, J, X))) (fun _ => rfl) hc_ ?_
    refine iq_G_go (k := 3) (σ' := (81, [some (.ref 76), none, some (.int x2), some (.int x3), none, some (.int x5), none], [.int x3, .ref 103], (iq_sh l, I, J, X))) (fun _ => rfl) ?_
    obtain ⟨hc_, h⟩ := iq_itn h
    refine iq_G_pos (c := iq_in x3 10) (σ1 := (82, [some (.ref 76), none, some (.int x2), some (.int x3), none, some (.int x5), none], [.int (I 103 (Int32.toNatClampNeg x3))], (iq_sh l, I, J, X))) (fun _ => rfl) hc_ ?_
    rcases iq_ite h with ⟨hc_, h⟩ | ⟨hc_, h⟩
    · refine iq_G_pos (c := (I 103 (Int32.toNatClampNeg x3)) ≤ 0) (σ1 := (155, [some (.ref 76), none, some (.int x2), some (.int x3), none, some (.int x5), none], [], (iq_sh l, I, J, X))) (fun _ => rfl) hc_ ?_
      cases h
      exact iq_G_fg (L := [none, none, none, none, none, none, none]) trivial ((hx (.inl ()) rfl).1 () rfl)
    · refine iq_G_neg (c := (I 103 (Int32.toNatClampNeg x3)) ≤ 0) (σ1 := (85, [some (.ref 76), none, some (.int x2), some (.int x3), none, some (.int x5), none], [], (iq_sh l, I, J, X))) (fun _ => rfl) hc_ ?_
      refine iq_G_go (k := 2) (σ' := (88, [some (.ref 76), none, some (.int x2), some (.int x3), none, some (.int x5), some (.int (0 : Int32))], [], (iq_sh l, I, J, X))) (fun _ => rfl) ?_
      obtain ⟨w7, hw7, h⟩ := iq_bnd h
      refine iq_G_fg (L := [some (.ref 76), none, some (.int x2), some (.int x3), none, some (.int x5), some (.int (0 : Int32))]) (And.intro rfl (And.intro rfl (And.intro rfl (And.intro rfl (And.intro rfl trivial))))) ?_
      refine zM_soonest_l88_ok l x2 x3 x5 I J X hw7 _ ?_
      show iq_Gg 2 275 (128, [some (.ref 76), none, some (.int x2), some (.int x3), none, some (.int x5), some (.int w7)], [], (iq_sh l, I, J, X)) _
      refine iq_G_go (k := 5) (σ' := (136, [some (.ref 76), none, some (.int x2), some (.int x3), some (.int w7), some (.int x5), some (.int w7)], [.int w7, .int x3, .ref 76], (iq_sh l, I, J, X))) (fun _ => rfl) ?_
      obtain ⟨q8, hq8, h⟩ := iq_bnd h
      refine iq_G_call (σ' := (139, [some (.ref 76), none, some (.int x2), some (.int x3), some (.int w7), some (.int x5), some (.int w7)], [.int q8], (iq_sh l, I, J, X))) (fun _ => rfl) (zM_leads_ok l x3 w7 I J X hq8) rfl rfl ?_
      refine iq_G_go (k := 3) (σ' := (143, [some (.ref 76), none, some (.int x2), some (.int q8), some (.int w7), some (.int x5), some (.int w7)], [.int x2, .int x5], (iq_sh l, I, J, X))) (fun _ => rfl) ?_
      rcases iq_ite h with ⟨hc_, h⟩ | ⟨hc_, h⟩
      · refine iq_G_pos (c := ¬ x5 = x2) (σ1 := (149, [some (.ref 76), none, some (.int x2), some (.int q8), some (.int w7), some (.int x5), some (.int w7)], [], (iq_sh l, I, J, X))) (fun _ => rfl) hc_ ?_
        refine iq_G_go (k := 2) (σ' := (70, [some (.ref 76), none, some (.int x2), some (.int q8), some (.int w7), some (.int (x5 + (1 : Int32))), some (.int w7)], [], (iq_sh l, I, J, X))) (fun _ => rfl) ?_
        cases h
        exact iq_G_fg (L := [some (.ref 76), none, some (.int x2), some (.int q8), none, some (.int (x5 + (1 : Int32))), none]) (And.intro rfl (And.intro rfl (And.intro rfl (And.intro rfl trivial)))) (hc (q8, (x5 + (1 : Int32))) rfl)
      · refine iq_G_neg (c := ¬ x5 = x2) (σ1 := (146, [some (.ref 76), none, some (.int x2), some (.int q8), some (.int w7), some (.int x5), some (.int w7)], [], (iq_sh l, I, J, X))) (fun _ => rfl) hc_ ?_
        refine iq_G_go (k := 1) (σ' := (148, [some (.ref 76), none, some (.int x2), some (.int q8), some (.int w7), some (.int x5), some (.int w7)], [.int w7], (iq_sh l, I, J, X))) (fun _ => rfl) ?_
        cases h
        obtain rfl := (hx _ rfl).2 _ rfl
        exact iq_G_ret (fun _ => rfl)
set_option maxRecDepth 100000 in
theorem zM_soonest_l70_ok (l : Nat)  (x2 : Int32) (I : iq_I) (J : iq_J) (X : iq_X) {n : Nat} {v : Int32 × Int32} {w : (Unit) ⊕ (Int32 × iq_I)} (h : zM_soonest_l70 x2 I n v = some w) (r : iq_R × iq_M) (hq : (∀ a, w = .inl a → iq_Gg 2 275 (155, [none, none, none, none, none, none, none], [], (iq_sh l, I, J, X)) r) ∧ (∀ b, w = .inr b → r = (.inl (some (.int b.1)), (iq_sh l, b.2, J, X)))) : iq_Gg 2 275 (70, [some (.ref 76), none, some (.int x2), some (.int v.1), none, some (.int v.2), none], [], (iq_sh l, I, J, X)) r :=
  iq_lp_ok (σ := fun v => (70, [some (.ref 76), none, some (.int x2), some (.int v.1), none, some (.int v.2), none], [], (iq_sh l, I, J, X))) (Q := fun w r => (∀ a, w = .inl a → iq_Gg 2 275 (155, [none, none, none, none, none, none, none], [], (iq_sh l, I, J, X)) r) ∧ (∀ b, w = .inr b → r = (.inl (some (.int b.1)), (iq_sh l, b.2, J, X)))) (fun v q hv r h1 h2 => zM_soonest_l70_bok l x2 I J X v.1 v.2 hv r h1 h2) h r hq
set_option maxRecDepth 100000 in
theorem zM_soonest_24_ok (l : Nat)  (x1 : Int32) (x2 : Int32) (s1 : Int32) (I : iq_I) (J : iq_J) (X : iq_X)  {q : Int32 × iq_I} (h : zM_soonest_24 x1 x2 s1 I = some q)  : iq_Gg 2 275 (24, [some (.ref 76), some (.int x1), some (.int x2), none, none, none, none], [.int s1, .ref 76], (iq_sh l, I, J, X)) (.inl (some (.int q.1)), (iq_sh l, q.2, J, X)) := by
  unfold zM_soonest_24 at h
  refine iq_G_go (k := 1) (σ' := (25, [some (.ref 76), some (.int x1), some (.int x2), none, none, none, none], [.int (1 : Int32), .int s1, .ref 76], (iq_sh l, I, J, X))) (fun _ => rfl) ?_
  obtain ⟨q3, hq3, h⟩ := iq_bnd h
  refine iq_G_call (σ' := (28, [some (.ref 76), some (.int x1), some (.int x2), none, none, none, none], [.int q3.1], (iq_sh l, q3.2, J, X))) (fun _ => rfl) (zM_right_ok l s1 (1 : Int32) I J X hq3) rfl rfl ?_
  rcases iq_ite h with ⟨hc_, h⟩ | ⟨hc_, h⟩
  · refine iq_G_pos (c := ¬ q3.1 = 0) (σ1 := (33, [some (.ref 76), some (.int x1), some (.int x2), none, none, none, none], [], (iq_sh l, q3.2, J, X))) (fun _ => rfl) hc_ ?_
    refine iq_G_go (k := 1) (σ' := (34, [some (.ref 76), some (.int x1), some (.int x2), none, none, none, none], [.ref 76], (iq_sh l, q3.2, J, X))) (fun _ => rfl) ?_
    obtain ⟨q4, hq4, h⟩ := iq_bnd h
    refine iq_G_call (σ' := (37, [some (.ref 76), some (.int x1), some (.int x2), none, none, none, none], [], (iq_sh l, q4, J, X))) (fun _ => rfl) (zM_measures_ok l  q3.2 J X hq4) rfl rfl ?_
    refine iq_G_go (k := 3) (σ' := (42, [some (.ref 76), some (.int x1), some (.int x2), none, none, none, none], [.int x1, .ref 103], (iq_sh l, q4, J, X))) (fun _ => rfl) ?_
    obtain ⟨hc_, h⟩ := iq_itn h
    refine iq_G_pos (c := iq_in x1 10) (σ1 := (43, [some (.ref 76), some (.int x1), some (.int x2), none, none, none, none], [.int (q4 103 (Int32.toNatClampNeg x1))], (iq_sh l, q4, J, X))) (fun _ => rfl) hc_ ?_
    refine iq_G_go (k := 1) (σ' := (45, [some (.ref 76), some (.int x1), some (.int x2), none, none, none, none], [.int (99 : Int32), .int (q4 103 (Int32.toNatClampNeg x1))], (iq_sh l, q4, J, X))) (fun _ => rfl) ?_
    rcases iq_ite h with ⟨hc_, h⟩ | ⟨hc_, h⟩
    · refine iq_G_pos (c := (q4 103 (Int32.toNatClampNeg x1)) < (99 : Int32)) (σ1 := (50, [some (.ref 76), some (.int x1), some (.int x2), none, none, none, none], [], (iq_sh l, q4, J, X))) (fun _ => rfl) hc_ ?_
      refine iq_G_go (k := 2) (σ' := (52, [some (.ref 76), some (.int x1), some (.int x2), none, none, none, none], [.int (-1 : Int32), .int x2], (iq_sh l, q4, J, X))) (fun _ => rfl) ?_
      rcases iq_ite h with ⟨hc_, h⟩ | ⟨hc_, h⟩
      · refine iq_G_pos (c := ¬ x2 = (-1 : Int32)) (σ1 := (62, [some (.ref 76), some (.int x1), some (.int x2), none, none, none, none], [], (iq_sh l, q4, J, X))) (fun _ => rfl) hc_ ?_
        refine iq_G_go (k := 6) (σ' := (70, [some (.ref 76), some (.int x1), some (.int x2), some (.int x1), some (.int (-1 : Int32)), some (.int (0 : Int32)), none], [], (iq_sh l, q4, J, X))) (fun _ => rfl) ?_
        obtain ⟨w9, hw9, h⟩ := iq_bnd h
        refine iq_G_fg (L := [some (.ref 76), none, some (.int x2), some (.int x1), none, some (.int (0 : Int32)), none]) (And.intro rfl (And.intro rfl (And.intro rfl (And.intro rfl trivial)))) ?_
        refine zM_soonest_l70_ok l x2 q4 J X hw9 _ ⟨fun a10 ha => ?_, fun b11 hb => ?_⟩
        · subst ha
          replace h := ir_smL h
          show iq_Gg 2 275 (155, [none, none, none, none, none, none, none], [], (iq_sh l, q4, J, X)) _
          refine iq_G_go (k := 1) (σ' := (156, [none, none, none, none, none, none, none], [.int (-1 : Int32)], (iq_sh l, q4, J, X))) (fun _ => rfl) ?_
          cases h
          exact iq_G_ret (fun _ => rfl)
        · subst hb
          replace h := ir_smR h
          cases h
          rfl
      · refine iq_G_neg (c := ¬ x2 = (-1 : Int32)) (σ1 := (55, [some (.ref 76), some (.int x1), some (.int x2), none, none, none, none], [], (iq_sh l, q4, J, X))) (fun _ => rfl) hc_ ?_
        refine iq_G_go (k := 3) (σ' := (60, [some (.ref 76), some (.int x1), some (.int x2), none, none, none, none], [.int x1, .ref 103], (iq_sh l, q4, J, X))) (fun _ => rfl) ?_
        obtain ⟨hc_, h⟩ := iq_itn h
        refine iq_G_pos (c := iq_in x1 10) (σ1 := (61, [some (.ref 76), some (.int x1), some (.int x2), none, none, none, none], [.int (q4 103 (Int32.toNatClampNeg x1))], (iq_sh l, q4, J, X))) (fun _ => rfl) hc_ ?_
        cases h
        exact iq_G_ret (fun _ => rfl)
    · refine iq_G_neg (c := (q4 103 (Int32.toNatClampNeg x1)) < (99 : Int32)) (σ1 := (48, [some (.ref 76), some (.int x1), some (.int x2), none, none, none, none], [], (iq_sh l, q4, J, X))) (fun _ => rfl) hc_ ?_
      refine iq_G_go (k := 1) (σ' := (49, [some (.ref 76), some (.int x1), some (.int x2), none, none, none, none], [.int (-1 : Int32)], (iq_sh l, q4, J, X))) (fun _ => rfl) ?_
      cases h
      exact iq_G_ret (fun _ => rfl)
  · refine iq_G_neg (c := ¬ q3.1 = 0) (σ1 := (31, [some (.ref 76), some (.int x1), some (.int x2), none, none, none, none], [], (iq_sh l, q3.2, J, X))) (fun _ => rfl) hc_ ?_
    refine iq_G_go (k := 1) (σ' := (32, [some (.ref 76), some (.int x1), some (.int x2), none, none, none, none], [.int (0 : Int32)], (iq_sh l, q3.2, J, X))) (fun _ => rfl) ?_
    cases h
    exact iq_G_ret (fun _ => rfl)
set_option maxRecDepth 100000 in
theorem zM_soonest_ok (l : Nat)  (x1 : Int32) (x2 : Int32) (I : iq_I) (J : iq_J) (X : iq_X) {q : Int32 × iq_I} (h : zM_soonest x1 x2 I = some q) : iq_Cc 3 275 [.ref 76, .int x1, .int x2] (iq_sh l, I, J, X) (.inl (some (.int q.1)), (iq_sh l, q.2, J, X)) := by
  refine iq_Cc_of (L := [some (.ref 76), some (.int x1), some (.int x2), none, none, none, none]) rfl rfl ?_
  unfold zM_soonest at h
  refine iq_G_go (k := 2) (σ' := (2, [some (.ref 76), some (.int x1), some (.int x2), none, none, none, none], [.int (0 : Int32), .ref 76], (iq_sh l, I, J, X))) (fun _ => rfl) ?_
  refine iq_G_go (k := 1) (σ' := (5, [some (.ref 76), some (.int x1), some (.int x2), none, none, none, none], [], (iq_sh l, (iq_upI I 76 0 (0 : Int32)), J, X))) (fun _ => rfl) ?_
  obtain ⟨I1, eI1, h⟩ := ir_letG h
  rw [← eI1]
  clear eI1
  refine iq_G_go (k := 2) (σ' := (7, [some (.ref 76), some (.int x1), some (.int x2), none, none, none, none], [.int x1, .ref 76], (iq_sh l, I1, J, X))) (fun _ => rfl) ?_
  obtain ⟨q2, hq2, h⟩ := iq_bnd h
  refine iq_G_call (σ' := (10, [some (.ref 76), some (.int x1), some (.int x2), none, none, none, none], [.int q2.1], (iq_sh l, q2.2, J, X))) (fun _ => rfl) (zM_isState_ok l x1 I1 J X hq2) rfl rfl ?_
  rcases iq_ite h with ⟨hc_, h⟩ | ⟨hc_, h⟩
  · refine iq_G_pos (c := q2.1 = 0) (σ1 := (31, [some (.ref 76), some (.int x1), some (.int x2), none, none, none, none], [], (iq_sh l, q2.2, J, X))) (fun _ => rfl) hc_ ?_
    refine iq_G_go (k := 1) (σ' := (32, [some (.ref 76), some (.int x1), some (.int x2), none, none, none, none], [.int (0 : Int32)], (iq_sh l, q2.2, J, X))) (fun _ => rfl) ?_
    cases h
    exact iq_G_ret (fun _ => rfl)
  · refine iq_G_neg (c := q2.1 = 0) (σ1 := (13, [some (.ref 76), some (.int x1), some (.int x2), none, none, none, none], [], (iq_sh l, q2.2, J, X))) (fun _ => rfl) hc_ ?_
    refine iq_G_go (k := 3) (σ' := (16, [some (.ref 76), some (.int x1), some (.int x2), none, none, none, none], [.int (-1 : Int32), .int x2, .ref 76], (iq_sh l, q2.2, J, X))) (fun _ => rfl) ?_
    rcases iq_ite h with ⟨hc_, h⟩ | ⟨hc_, h⟩
    · refine iq_G_pos (c := x2 < (-1 : Int32)) (σ1 := (23, [some (.ref 76), some (.int x1), some (.int x2), none, none, none, none], [.ref 76], (iq_sh l, q2.2, J, X))) (fun _ => rfl) hc_ ?_
      refine iq_G_go (k := 1) (σ' := (24, [some (.ref 76), some (.int x1), some (.int x2), none, none, none, none], [.int (0 : Int32), .ref 76], (iq_sh l, q2.2, J, X))) (fun _ => rfl) ?_
      exact iq_G_fg (L := [some (.ref 76), some (.int x1), some (.int x2), none, none, none, none]) (And.intro rfl (And.intro rfl (And.intro rfl trivial))) (zM_soonest_24_ok l x1 x2 (0 : Int32) q2.2 J X  h )
    · refine iq_G_neg (c := x2 < (-1 : Int32)) (σ1 := (19, [some (.ref 76), some (.int x1), some (.int x2), none, none, none, none], [.ref 76], (iq_sh l, q2.2, J, X))) (fun _ => rfl) hc_ ?_
      refine iq_G_go (k := 2) (σ' := (24, [some (.ref 76), some (.int x1), some (.int x2), none, none, none, none], [.int (1 : Int32), .ref 76], (iq_sh l, q2.2, J, X))) (fun _ => rfl) ?_
      exact iq_G_fg (L := [some (.ref 76), some (.int x1), some (.int x2), none, none, none, none]) (And.intro rfl (And.intro rfl (And.intro rfl trivial))) (zM_soonest_24_ok l x1 x2 (1 : Int32) q2.2 J X  h )
set_option maxRecDepth 100000 in
theorem zP_keptOpen_ok (l : Nat)  (x1 : Int32) (I : iq_I) (J : iq_J) (X : iq_X) {q : Int32 × iq_I} (h : zP_keptOpen x1 I = some q) : iq_Cc 3 59 [.ref 63, .int x1] (iq_sh l, I, J, X) (.inl (some (.int q.1)), (iq_sh l, q.2, J, X)) := by
  refine iq_Cc_of (L := [some (.ref 63), some (.int x1)]) rfl rfl ?_
  unfold zP_keptOpen at h
  refine iq_G_go (k := 2) (σ' := (2, [some (.ref 63), some (.int x1)], [.int (0 : Int32), .ref 63], (iq_sh l, I, J, X))) (fun _ => rfl) ?_
  obtain ⟨q1, hq1, h⟩ := iq_bnd h
  refine iq_G_call (σ' := (5, [some (.ref 63), some (.int x1)], [], (iq_sh l, q1, J, X))) (fun _ => rfl) (zP_lookBehind_ok l (0 : Int32) I J X hq1) rfl rfl ?_
  refine iq_G_go (k := 3) (σ' := (8, [some (.ref 63), some (.int x1)], [.ref 63, .int x1, .ref 63], (iq_sh l, q1, J, X))) (fun _ => rfl) ?_
  obtain ⟨q2, hq2, h⟩ := iq_bnd h
  refine iq_G_call (σ' := (11, [some (.ref 63), some (.int x1)], [.int q2, .int x1, .ref 63], (iq_sh l, q1, J, X))) (fun _ => rfl) (zP_allStates_ok l  q1 J X hq2) rfl rfl ?_
  obtain ⟨q3, hq3, h⟩ := iq_bnd h
  refine iq_G_call (σ' := (14, [some (.ref 63), some (.int x1)], [.int q3], (iq_sh l, q1, J, X))) (fun _ => rfl) (zP_longestWithin_ok l x1 q2 q1 J X hq3) rfl rfl ?_
  cases h
  exact iq_G_ret (fun _ => rfl)
set_option maxRecDepth 100000 in
theorem zO_open_ok (l : Nat)  (x1 : Int32) (I : iq_I) (J : iq_J) (X : iq_X) {q : (Int32 ⊕ Nat) × iq_I × iq_X} (h : zO_open x1 I X = some q) : iq_Cc 4 163 [.ref 1, .int x1] (iq_sh l, I, J, X) ((ir_Ri q.1), (iq_sh l, q.2.1, J, q.2.2)) := by
  refine iq_Cc_of (L := [some (.ref 1), some (.int x1)]) rfl rfl ?_
  unfold zO_open at h
  refine iq_G_go (k := 2) (σ' := (2, [some (.ref 1), some (.int x1)], [.int x1, .ref 1], (iq_sh l, I, J, X))) (fun _ => rfl) ?_
  obtain ⟨q1, hq1, h⟩ := iq_bnd h
  have hC := (zO_needState_ok l x1 I J X hq1)
  rcases iq_smc h with ⟨a2, ha, h⟩ | ⟨k3, ha, h⟩
  · rw [ha] at hC
    refine iq_G_call (σ' := (5, [some (.ref 1), some (.int x1)], [], (iq_sh l, I, J, q1.2))) (fun _ => rfl) hC rfl rfl ?_
    refine iq_G_go (k := 3) (σ' := (10, [some (.ref 1), some (.int x1)], [.int x1, .ref 63], (iq_sh l, I, J, q1.2))) (fun _ => rfl) ?_
    obtain ⟨q4, hq4, h⟩ := iq_bnd h
    refine iq_G_call (σ' := (13, [some (.ref 1), some (.int x1)], [.int q4.1], (iq_sh l, q4.2, J, q1.2))) (fun _ => rfl) (zP_keptOpen_ok l x1 I J q1.2 hq4) rfl rfl ?_
    cases h
    exact iq_G_ret (fun _ => rfl)
  · rw [ha] at hC
    cases h
    exact iq_G_callx (fun _ => rfl) hC rfl rfl
set_option maxRecDepth 100000 in
theorem zL_open_ok (l : Nat)  (x1 : Int32) (I : iq_I) (J : iq_J) (X : iq_X) {q : Int32 × iq_I × iq_J × iq_X} (h : zL_open x1 I J X = some q) : iq_Cc 5 335 [.ref 1, .int x1, .ref 114] (iq_sh l, I, J, X) (.inl (some (.int q.1)), (iq_sh l, q.2.1, q.2.2.1, q.2.2.2)) := by
  refine iq_Cc_of (L := [some (.ref 1), some (.int x1), some (.ref 114), none]) rfl rfl ?_
  unfold zL_open at h
  refine iq_G_go (k := 4) (σ' := (4, [some (.ref 1), some (.int x1), some (.ref 114), none], [.int x1, .ref 1, .int (0 : Int32), .ref 114], (iq_sh l, I, J, X))) (fun _ => rfl) ?_
  obtain ⟨q1, hq1, h⟩ := iq_bnd h
  have hC := (zO_open_ok l x1 I J X hq1)
  rcases iq_smc h with ⟨a2, ha, h⟩ | ⟨k3, ha, h⟩
  · rw [ha] at hC
    refine iq_G_call (σ' := (7, [some (.ref 1), some (.int x1), some (.ref 114), none], [.int a2, .int (0 : Int32), .ref 114], (iq_sh l, q1.2.1, J, q1.2.2))) (fun _ => rfl) hC rfl rfl ?_
    refine iq_G_go (k := 1) (σ' := (8, [some (.ref 1), some (.int x1), some (.ref 114), none], [.long (Int32.toInt64 a2), .int (0 : Int32), .ref 114], (iq_sh l, q1.2.1, J, q1.2.2))) (fun _ => rfl) ?_
    refine iq_G_go (k := 1) (σ' := (9, [some (.ref 1), some (.int x1), some (.ref 114), none], [], (iq_sh l, q1.2.1, (iq_upJ J 114 0 (Int32.toInt64 a2)), q1.2.2))) (fun _ => rfl) ?_
    obtain ⟨J4, eJ4, h⟩ := ir_letG h
    rw [← eJ4]
    clear eJ4
    refine iq_G_go (k := 2) (σ' := (16, [some (.ref 1), some (.int x1), some (.ref 114), none], [.int (0 : Int32)], (iq_sh l, q1.2.1, J4, q1.2.2))) (fun _ => rfl) ?_
    cases h
    exact iq_G_ret (fun _ => rfl)
  · rw [ha] at hC
    rcases iq_ite h with ⟨e, h⟩ | ⟨_, h⟩
    · subst e
      refine iq_G_call (σ' := (13, [some (.ref 1), some (.int x1), some (.ref 114), none], [], (iq_sh l, q1.2.1, J, q1.2.2))) (fun _ => rfl) hC rfl rfl ?_
      refine iq_G_go (k := 1) (σ' := (14, [some (.ref 1), some (.int x1), some (.ref 114), none], [.int (1 : Int32)], (iq_sh l, q1.2.1, J, q1.2.2))) (fun _ => rfl) ?_
      cases h
      exact iq_G_ret (fun _ => rfl)
    · obtain ⟨e, h⟩ := iq_itn h
      cases h
set_option maxRecDepth 100000 in
theorem zM_open_ok (l : Nat)  (x1 : Int32) (I : iq_I) (J : iq_J) (X : iq_X) {q : Int32 × iq_I} (h : zM_open x1 I = some q) : iq_Cc 5 273 [.ref 76, .int x1] (iq_sh l, I, J, X) (.inl (some (.int q.1)), (iq_sh l, q.2, J, X)) := by
  refine iq_Cc_of (L := [some (.ref 76), some (.int x1)]) rfl rfl ?_
  unfold zM_open at h
  refine iq_G_go (k := 2) (σ' := (2, [some (.ref 76), some (.int x1)], [.int (0 : Int32), .ref 76], (iq_sh l, I, J, X))) (fun _ => rfl) ?_
  refine iq_G_go (k := 1) (σ' := (5, [some (.ref 76), some (.int x1)], [], (iq_sh l, (iq_upI I 76 0 (0 : Int32)), J, X))) (fun _ => rfl) ?_
  obtain ⟨I1, eI1, h⟩ := ir_letG h
  rw [← eI1]
  clear eI1
  refine iq_G_go (k := 2) (σ' := (7, [some (.ref 76), some (.int x1)], [.int x1, .ref 76], (iq_sh l, I1, J, X))) (fun _ => rfl) ?_
  obtain ⟨q2, hq2, h⟩ := iq_bnd h
  refine iq_G_call (σ' := (10, [some (.ref 76), some (.int x1)], [.int q2.1], (iq_sh l, q2.2, J, X))) (fun _ => rfl) (zM_isState_ok l x1 I1 J X hq2) rfl rfl ?_
  rcases iq_ite h with ⟨hc_, h⟩ | ⟨hc_, h⟩
  · refine iq_G_pos (c := q2.1 = 0) (σ1 := (21, [some (.ref 76), some (.int x1)], [], (iq_sh l, q2.2, J, X))) (fun _ => rfl) hc_ ?_
    refine iq_G_go (k := 1) (σ' := (22, [some (.ref 76), some (.int x1)], [.int (0 : Int32)], (iq_sh l, q2.2, J, X))) (fun _ => rfl) ?_
    cases h
    exact iq_G_ret (fun _ => rfl)
  · refine iq_G_neg (c := q2.1 = 0) (σ1 := (13, [some (.ref 76), some (.int x1)], [], (iq_sh l, q2.2, J, X))) (fun _ => rfl) hc_ ?_
    refine iq_G_go (k := 2) (σ' := (15, [some (.ref 76), some (.int x1)], [.int x1, .ref 76], (iq_sh l, q2.2, J, X))) (fun _ => rfl) ?_
    obtain ⟨q3, hq3, h⟩ := iq_bnd h
    refine iq_G_call (σ' := (18, [some (.ref 76), some (.int x1)], [.int q3], (iq_sh l, q2.2, J, X))) (fun _ => rfl) (zM_follows_ok l x1 q2.2 J X hq3) rfl rfl ?_
    refine iq_G_go (k := 1) (σ' := (22, [some (.ref 76), some (.int x1)], [.int q3], (iq_sh l, q2.2, J, X))) (fun _ => rfl) ?_
    cases h
    exact iq_G_ret (fun _ => rfl)
set_option maxRecDepth 100000 in
theorem zG_takeOut_ok (l : Nat)  (x1 : Int32) (x2 : Int32) (I : iq_I) (J : iq_J) (X : iq_X) {q : Int32 × iq_I} (h : zG_takeOut x1 x2 I = some q) : iq_Cc 2 14 [.ref 16, .int x1, .int x2] (iq_sh l, I, J, X) (.inl (some (.int q.1)), (iq_sh l, q.2, J, X)) := by
  refine iq_Cc_of (L := [some (.ref 16), some (.int x1), some (.int x2), none, none, none]) rfl rfl ?_
  unfold zG_takeOut at h
  refine iq_G_go (k := 2) (σ' := (2, [some (.ref 16), some (.int x1), some (.int x2), none, none, none], [.int x1, .ref 16], (iq_sh l, I, J, X))) (fun _ => rfl) ?_
  obtain ⟨q1, hq1, h⟩ := iq_bnd h
  refine iq_G_call (σ' := (5, [some (.ref 16), some (.int x1), some (.int x2), none, none, none], [.int q1], (iq_sh l, I, J, X))) (fun _ => rfl) (zG_lengthOf_16_ok l x1 I J X hq1) rfl rfl ?_
  refine iq_G_go (k := 2) (σ' := (7, [some (.ref 16), some (.int x1), some (.int x2), some (.int q1), none, none], [.int x2], (iq_sh l, I, J, X))) (fun _ => rfl) ?_
  rcases iq_ite h with ⟨hc_, h⟩ | ⟨hc_, h⟩
  · refine iq_G_pos (c := x2 < 0) (σ1 := (15, [some (.ref 16), some (.int x1), some (.int x2), some (.int q1), none, none], [], (iq_sh l, I, J, X))) (fun _ => rfl) hc_ ?_
    refine iq_G_go (k := 1) (σ' := (16, [some (.ref 16), some (.int x1), some (.int x2), some (.int q1), none, none], [.int (-1 : Int32)], (iq_sh l, I, J, X))) (fun _ => rfl) ?_
    cases h
    exact iq_G_ret (fun _ => rfl)
  · refine iq_G_neg (c := x2 < 0) (σ1 := (10, [some (.ref 16), some (.int x1), some (.int x2), some (.int q1), none, none], [], (iq_sh l, I, J, X))) (fun _ => rfl) hc_ ?_
    refine iq_G_go (k := 2) (σ' := (12, [some (.ref 16), some (.int x1), some (.int x2), some (.int q1), none, none], [.int q1, .int x2], (iq_sh l, I, J, X))) (fun _ => rfl) ?_
    rcases iq_ite h with ⟨hc_, h⟩ | ⟨hc_, h⟩
    · refine iq_G_pos (c := x2 < q1) (σ1 := (17, [some (.ref 16), some (.int x1), some (.int x2), some (.int q1), none, none], [], (iq_sh l, I, J, X))) (fun _ => rfl) hc_ ?_
      refine iq_G_go (k := 9) (σ' := (31, [some (.ref 16), some (.int x1), some (.int x2), some (.int q1), some (.int ((x1 * (40 : Int32)) + x2)), none], [.int ((x1 * (40 : Int32)) + x2), .ref 24], (iq_sh l, I, J, X))) (fun _ => rfl) ?_
      obtain ⟨hc_, h⟩ := iq_itn h
      refine iq_G_pos (c := iq_in ((x1 * (40 : Int32)) + x2) 200) (σ1 := (32, [some (.ref 16), some (.int x1), some (.int x2), some (.int q1), some (.int ((x1 * (40 : Int32)) + x2)), none], [.int (I 24 (Int32.toNatClampNeg ((x1 * (40 : Int32)) + x2)))], (iq_sh l, I, J, X))) (fun _ => rfl) hc_ ?_
      refine iq_G_go (k := 14) (σ' := (53, [some (.ref 16), some (.int x1), some (.int x2), some (.int q1), some (.int ((x1 * (40 : Int32)) + x2)), some (.int (I 24 (Int32.toNatClampNeg ((x1 * (40 : Int32)) + x2))))], [.int ((q1 - x2) - (1 : Int32)), .int ((x1 * (40 : Int32)) + x2), .ref 24, .int (((x1 * (40 : Int32)) + x2) + (1 : Int32)), .ref 24], (iq_sh l, I, J, X))) (fun _ => rfl) ?_
      obtain ⟨hc_, h⟩ := iq_itn h
      have st_ : ∀ (z_0 : Int32) (r_ : iq_R × iq_M), 0 ≤ (((x1 * (40 : Int32)) + x2) + (1 : Int32)) ∧ 0 ≤ ((x1 * (40 : Int32)) + x2) ∧ 0 ≤ z_0 ∧ Int32.toNatClampNeg (((x1 * (40 : Int32)) + x2) + (1 : Int32)) + Int32.toNatClampNeg z_0 ≤ 200 ∧ Int32.toNatClampNeg ((x1 * (40 : Int32)) + x2) + Int32.toNatClampNeg z_0 ≤ 200 → iq_Gg 1 14 (56, [some (.ref 16), some (.int x1), some (.int x2), some (.int q1), some (.int ((x1 * (40 : Int32)) + x2)), some (.int (I 24 (Int32.toNatClampNeg ((x1 * (40 : Int32)) + x2))))], [], (iq_sh l, (iq_cpI I 24 24 (Int32.toNatClampNeg (((x1 * (40 : Int32)) + x2) + (1 : Int32))) (Int32.toNatClampNeg ((x1 * (40 : Int32)) + x2)) (Int32.toNatClampNeg z_0)), J, X)) r_ → iq_Gg 1 14 (53, [some (.ref 16), some (.int x1), some (.int x2), some (.int q1), some (.int ((x1 * (40 : Int32)) + x2)), some (.int (I 24 (Int32.toNatClampNeg ((x1 * (40 : Int32)) + x2))))], [.int z_0, .int ((x1 * (40 : Int32)) + x2), .ref 24, .int (((x1 * (40 : Int32)) + x2) + (1 : Int32)), .ref 24], (iq_sh l, I, J, X)) r_ := fun z_0 r_ hc_ hg_ => iq_G_pos (c := 0 ≤ (((x1 * (40 : Int32)) + x2) + (1 : Int32)) ∧ 0 ≤ ((x1 * (40 : Int32)) + x2) ∧ 0 ≤ z_0 ∧ Int32.toNatClampNeg (((x1 * (40 : Int32)) + x2) + (1 : Int32)) + Int32.toNatClampNeg z_0 ≤ 200 ∧ Int32.toNatClampNeg ((x1 * (40 : Int32)) + x2) + Int32.toNatClampNeg z_0 ≤ 200) (σ1 := (56, [some (.ref 16), some (.int x1), some (.int x2), some (.int q1), some (.int ((x1 * (40 : Int32)) + x2)), some (.int (I 24 (Int32.toNatClampNeg ((x1 * (40 : Int32)) + x2))))], [], (iq_sh l, (iq_cpI I 24 24 (Int32.toNatClampNeg (((x1 * (40 : Int32)) + x2) + (1 : Int32))) (Int32.toNatClampNeg ((x1 * (40 : Int32)) + x2)) (Int32.toNatClampNeg z_0)), J, X))) (fun _ => rfl) hc_ hg_
      refine st_ ((q1 - x2) - (1 : Int32)) _ hc_ ?_
      clear st_
      obtain ⟨I2, eI2, h⟩ := ir_letG h
      rw [← eI2]
      clear eI2
      refine iq_G_go (k := 6) (σ' := (64, [some (.ref 16), some (.int x1), some (.int x2), some (.int q1), some (.int ((x1 * (40 : Int32)) + x2)), some (.int (I 24 (Int32.toNatClampNeg ((x1 * (40 : Int32)) + x2))))], [.int (q1 - (1 : Int32)), .int x1, .ref 18], (iq_sh l, I2, J, X))) (fun _ => rfl) ?_
      obtain ⟨hc_, h⟩ := iq_itn h
      refine iq_G_pos (c := iq_in x1 5) (σ1 := (65, [some (.ref 16), some (.int x1), some (.int x2), some (.int q1), some (.int ((x1 * (40 : Int32)) + x2)), some (.int (I 24 (Int32.toNatClampNeg ((x1 * (40 : Int32)) + x2))))], [], (iq_sh l, (iq_upI I2 18 (Int32.toNatClampNeg x1) (q1 - (1 : Int32))), J, X))) (fun _ => rfl) hc_ ?_
      obtain ⟨I3, eI3, h⟩ := ir_letG h
      rw [← eI3]
      clear eI3
      refine iq_G_go (k := 1) (σ' := (67, [some (.ref 16), some (.int x1), some (.int x2), some (.int q1), some (.int ((x1 * (40 : Int32)) + x2)), some (.int (I 24 (Int32.toNatClampNeg ((x1 * (40 : Int32)) + x2))))], [.int (I 24 (Int32.toNatClampNeg ((x1 * (40 : Int32)) + x2)))], (iq_sh l, I3, J, X))) (fun _ => rfl) ?_
      cases h
      exact iq_G_ret (fun _ => rfl)
    · refine iq_G_neg (c := x2 < q1) (σ1 := (15, [some (.ref 16), some (.int x1), some (.int x2), some (.int q1), none, none], [], (iq_sh l, I, J, X))) (fun _ => rfl) hc_ ?_
      refine iq_G_go (k := 1) (σ' := (16, [some (.ref 16), some (.int x1), some (.int x2), some (.int q1), none, none], [.int (-1 : Int32)], (iq_sh l, I, J, X))) (fun _ => rfl) ?_
      cases h
      exact iq_G_ret (fun _ => rfl)
set_option maxRecDepth 100000 in
theorem zG_putIn_16_ok (l : Nat)  (x1 : Int32) (x2 : Int32) (x3 : Int32) (I : iq_I) (J : iq_J) (X : iq_X) {q : iq_I} (h : zG_putIn_16 x1 x2 x3 I = some q) : iq_Cc 2 13 [.ref 16, .int x1, .int x2, .int x3] (iq_sh l, I, J, X) (.inl none, (iq_sh l, q, J, X)) := by
  refine iq_Cc_of (L := [some (.ref 16), some (.int x1), some (.int x2), some (.int x3), none, none]) rfl rfl ?_
  unfold zG_putIn_16 at h
  refine iq_G_go (k := 2) (σ' := (2, [some (.ref 16), some (.int x1), some (.int x2), some (.int x3), none, none], [.int x1, .ref 16], (iq_sh l, I, J, X))) (fun _ => rfl) ?_
  obtain ⟨q1, hq1, h⟩ := iq_bnd h
  refine iq_G_call (σ' := (5, [some (.ref 16), some (.int x1), some (.int x2), some (.int x3), none, none], [.int q1], (iq_sh l, I, J, X))) (fun _ => rfl) (zG_lengthOf_16_ok l x1 I J X hq1) rfl rfl ?_
  refine iq_G_go (k := 2) (σ' := (8, [some (.ref 16), some (.int x1), some (.int x2), some (.int x3), some (.int q1), none], [.int x1], (iq_sh l, I, J, X))) (fun _ => rfl) ?_
  rcases iq_ite h with ⟨hc_, h⟩ | ⟨hc_, h⟩
  · refine iq_G_pos (c := x1 < 0) (σ1 := (36, [some (.ref 16), some (.int x1), some (.int x2), some (.int x3), some (.int q1), none], [], (iq_sh l, I, J, X))) (fun _ => rfl) hc_ ?_
    cases h
    exact iq_G_ret (fun _ => rfl)
  · refine iq_G_neg (c := x1 < 0) (σ1 := (11, [some (.ref 16), some (.int x1), some (.int x2), some (.int x3), some (.int q1), none], [], (iq_sh l, I, J, X))) (fun _ => rfl) hc_ ?_
    refine iq_G_go (k := 3) (σ' := (16, [some (.ref 16), some (.int x1), some (.int x2), some (.int x3), some (.int q1), none], [.int (I 16 0), .int x1], (iq_sh l, I, J, X))) (fun _ => rfl) ?_
    rcases iq_ite h with ⟨hc_, h⟩ | ⟨hc_, h⟩
    · refine iq_G_pos (c := (I 16 0) ≤ x1) (σ1 := (36, [some (.ref 16), some (.int x1), some (.int x2), some (.int x3), some (.int q1), none], [], (iq_sh l, I, J, X))) (fun _ => rfl) hc_ ?_
      cases h
      exact iq_G_ret (fun _ => rfl)
    · refine iq_G_neg (c := (I 16 0) ≤ x1) (σ1 := (19, [some (.ref 16), some (.int x1), some (.int x2), some (.int x3), some (.int q1), none], [], (iq_sh l, I, J, X))) (fun _ => rfl) hc_ ?_
      refine iq_G_go (k := 2) (σ' := (23, [some (.ref 16), some (.int x1), some (.int x2), some (.int x3), some (.int q1), none], [.int (40 : Int32), .int q1], (iq_sh l, I, J, X))) (fun _ => rfl) ?_
      rcases iq_ite h with ⟨hc_, h⟩ | ⟨hc_, h⟩
      · refine iq_G_pos (c := (40 : Int32) ≤ q1) (σ1 := (36, [some (.ref 16), some (.int x1), some (.int x2), some (.int x3), some (.int q1), none], [], (iq_sh l, I, J, X))) (fun _ => rfl) hc_ ?_
        cases h
        exact iq_G_ret (fun _ => rfl)
      · refine iq_G_neg (c := (40 : Int32) ≤ q1) (σ1 := (26, [some (.ref 16), some (.int x1), some (.int x2), some (.int x3), some (.int q1), none], [], (iq_sh l, I, J, X))) (fun _ => rfl) hc_ ?_
        refine iq_G_go (k := 1) (σ' := (27, [some (.ref 16), some (.int x1), some (.int x2), some (.int x3), some (.int q1), none], [.int x2], (iq_sh l, I, J, X))) (fun _ => rfl) ?_
        rcases iq_ite h with ⟨hc_, h⟩ | ⟨hc_, h⟩
        · refine iq_G_pos (c := x2 < 0) (σ1 := (36, [some (.ref 16), some (.int x1), some (.int x2), some (.int x3), some (.int q1), none], [], (iq_sh l, I, J, X))) (fun _ => rfl) hc_ ?_
          cases h
          exact iq_G_ret (fun _ => rfl)
        · refine iq_G_neg (c := x2 < 0) (σ1 := (30, [some (.ref 16), some (.int x1), some (.int x2), some (.int x3), some (.int q1), none], [], (iq_sh l, I, J, X))) (fun _ => rfl) hc_ ?_
          refine iq_G_go (k := 2) (σ' := (33, [some (.ref 16), some (.int x1), some (.int x2), some (.int x3), some (.int q1), none], [.int q1, .int x2], (iq_sh l, I, J, X))) (fun _ => rfl) ?_
          rcases iq_ite h with ⟨hc_, h⟩ | ⟨hc_, h⟩
          · refine iq_G_pos (c := x2 ≤ q1) (σ1 := (37, [some (.ref 16), some (.int x1), some (.int x2), some (.int x3), some (.int q1), none], [], (iq_sh l, I, J, X))) (fun _ => rfl) hc_ ?_
            refine iq_G_go (k := 17) (σ' := (63, [some (.ref 16), some (.int x1), some (.int x2), some (.int x3), some (.int q1), some (.int ((x1 * (40 : Int32)) + x2))], [.int (q1 - x2), .int (((x1 * (40 : Int32)) + x2) + (1 : Int32)), .ref 24, .int ((x1 * (40 : Int32)) + x2), .ref 24], (iq_sh l, I, J, X))) (fun _ => rfl) ?_
            obtain ⟨hc_, h⟩ := iq_itn h
            have st_ : ∀ (z_0 : Int32) (r_ : iq_R × iq_M), 0 ≤ ((x1 * (40 : Int32)) + x2) ∧ 0 ≤ (((x1 * (40 : Int32)) + x2) + (1 : Int32)) ∧ 0 ≤ z_0 ∧ Int32.toNatClampNeg ((x1 * (40 : Int32)) + x2) + Int32.toNatClampNeg z_0 ≤ 200 ∧ Int32.toNatClampNeg (((x1 * (40 : Int32)) + x2) + (1 : Int32)) + Int32.toNatClampNeg z_0 ≤ 200 → iq_Gg 1 13 (66, [some (.ref 16), some (.int x1), some (.int x2), some (.int x3), some (.int q1), some (.int ((x1 * (40 : Int32)) + x2))], [], (iq_sh l, (iq_cpI I 24 24 (Int32.toNatClampNeg ((x1 * (40 : Int32)) + x2)) (Int32.toNatClampNeg (((x1 * (40 : Int32)) + x2) + (1 : Int32))) (Int32.toNatClampNeg z_0)), J, X)) r_ → iq_Gg 1 13 (63, [some (.ref 16), some (.int x1), some (.int x2), some (.int x3), some (.int q1), some (.int ((x1 * (40 : Int32)) + x2))], [.int z_0, .int (((x1 * (40 : Int32)) + x2) + (1 : Int32)), .ref 24, .int ((x1 * (40 : Int32)) + x2), .ref 24], (iq_sh l, I, J, X)) r_ := fun z_0 r_ hc_ hg_ => iq_G_pos (c := 0 ≤ ((x1 * (40 : Int32)) + x2) ∧ 0 ≤ (((x1 * (40 : Int32)) + x2) + (1 : Int32)) ∧ 0 ≤ z_0 ∧ Int32.toNatClampNeg ((x1 * (40 : Int32)) + x2) + Int32.toNatClampNeg z_0 ≤ 200 ∧ Int32.toNatClampNeg (((x1 * (40 : Int32)) + x2) + (1 : Int32)) + Int32.toNatClampNeg z_0 ≤ 200) (σ1 := (66, [some (.ref 16), some (.int x1), some (.int x2), some (.int x3), some (.int q1), some (.int ((x1 * (40 : Int32)) + x2))], [], (iq_sh l, (iq_cpI I 24 24 (Int32.toNatClampNeg ((x1 * (40 : Int32)) + x2)) (Int32.toNatClampNeg (((x1 * (40 : Int32)) + x2) + (1 : Int32))) (Int32.toNatClampNeg z_0)), J, X))) (fun _ => rfl) hc_ hg_
            refine st_ (q1 - x2) _ hc_ ?_
            clear st_
            obtain ⟨I2, eI2, h⟩ := ir_letG h
            rw [← eI2]
            clear eI2
            refine iq_G_go (k := 4) (σ' := (73, [some (.ref 16), some (.int x1), some (.int x2), some (.int x3), some (.int q1), some (.int ((x1 * (40 : Int32)) + x2))], [.int x3, .int ((x1 * (40 : Int32)) + x2), .ref 24], (iq_sh l, I2, J, X))) (fun _ => rfl) ?_
            obtain ⟨hc_, h⟩ := iq_itn h
            refine iq_G_pos (c := iq_in ((x1 * (40 : Int32)) + x2) 200) (σ1 := (74, [some (.ref 16), some (.int x1), some (.int x2), some (.int x3), some (.int q1), some (.int ((x1 * (40 : Int32)) + x2))], [], (iq_sh l, (iq_upI I2 24 (Int32.toNatClampNeg ((x1 * (40 : Int32)) + x2)) x3), J, X))) (fun _ => rfl) hc_ ?_
            obtain ⟨I3, eI3, h⟩ := ir_letG h
            rw [← eI3]
            clear eI3
            refine iq_G_go (k := 6) (σ' := (83, [some (.ref 16), some (.int x1), some (.int x2), some (.int x3), some (.int q1), some (.int ((x1 * (40 : Int32)) + x2))], [.int (q1 + (1 : Int32)), .int x1, .ref 18], (iq_sh l, I3, J, X))) (fun _ => rfl) ?_
            obtain ⟨hc_, h⟩ := iq_itn h
            refine iq_G_pos (c := iq_in x1 5) (σ1 := (84, [some (.ref 16), some (.int x1), some (.int x2), some (.int x3), some (.int q1), some (.int ((x1 * (40 : Int32)) + x2))], [], (iq_sh l, (iq_upI I3 18 (Int32.toNatClampNeg x1) (q1 + (1 : Int32))), J, X))) (fun _ => rfl) hc_ ?_
            obtain ⟨I4, eI4, h⟩ := ir_letG h
            rw [← eI4]
            clear eI4
            cases h
            exact iq_G_ret (fun _ => rfl)
          · refine iq_G_neg (c := x2 ≤ q1) (σ1 := (36, [some (.ref 16), some (.int x1), some (.int x2), some (.int x3), some (.int q1), none], [], (iq_sh l, I, J, X))) (fun _ => rfl) hc_ ?_
            cases h
            exact iq_G_ret (fun _ => rfl)
set_option maxRecDepth 100000 in
theorem zG_undoLast_ok (l : Nat)   (I : iq_I) (J : iq_J) (X : iq_X) {q : Int32 × iq_I} (h : zG_undoLast I = some q) : iq_Cc 3 16 [.ref 16] (iq_sh l, I, J, X) (.inl (some (.int q.1)), (iq_sh l, q.2, J, X)) := by
  refine iq_Cc_of (L := [some (.ref 16), none]) rfl rfl ?_
  unfold zG_undoLast at h
  refine iq_G_go (k := 3) (σ' := (7, [some (.ref 16), none], [.int (I 19 0)], (iq_sh l, I, J, X))) (fun _ => rfl) ?_
  rcases iq_ite h with ⟨hc_, h⟩ | ⟨hc_, h⟩
  · refine iq_G_pos (c := 0 < (I 19 0)) (σ1 := (12, [some (.ref 16), none], [], (iq_sh l, I, J, X))) (fun _ => rfl) hc_ ?_
    refine iq_G_go (k := 6) (σ' := (22, [some (.ref 16), none], [.int ((I 19 0) - (1 : Int32)), .ref 19], (iq_sh l, I, J, X))) (fun _ => rfl) ?_
    refine iq_G_go (k := 1) (σ' := (25, [some (.ref 16), none], [], (iq_sh l, (iq_upI I 19 0 ((I 19 0) - (1 : Int32))), J, X))) (fun _ => rfl) ?_
    obtain ⟨I1, eI1, h⟩ := ir_letG h
    rw [← eI1]
    clear eI1
    refine iq_G_go (k := 8) (σ' := (41, [some (.ref 16), some (.int (I1 19 0))], [.int (I1 19 0), .ref 20], (iq_sh l, I1, J, X))) (fun _ => rfl) ?_
    obtain ⟨hc_, h⟩ := iq_itn h
    refine iq_G_pos (c := iq_in (I1 19 0) 40) (σ1 := (42, [some (.ref 16), some (.int (I1 19 0))], [.int (I1 20 (Int32.toNatClampNeg (I1 19 0)))], (iq_sh l, I1, J, X))) (fun _ => rfl) hc_ ?_
    rcases iq_ite h with ⟨hc_, h⟩ | ⟨hc_, h⟩
    · refine iq_G_pos (c := ¬ (I1 20 (Int32.toNatClampNeg (I1 19 0))) = 0) (σ1 := (71, [some (.ref 16), some (.int (I1 19 0))], [], (iq_sh l, I1, J, X))) (fun _ => rfl) hc_ ?_
      refine iq_G_go (k := 4) (σ' := (79, [some (.ref 16), some (.int (I1 19 0))], [.int (I1 19 0), .ref 20], (iq_sh l, I1, J, X))) (fun _ => rfl) ?_
      obtain ⟨hc_, h⟩ := iq_itn h
      refine iq_G_pos (c := iq_in (I1 19 0) 40) (σ1 := (80, [some (.ref 16), some (.int (I1 19 0))], [.int (I1 20 (Int32.toNatClampNeg (I1 19 0)))], (iq_sh l, I1, J, X))) (fun _ => rfl) hc_ ?_
      refine iq_G_go (k := 1) (σ' := (81, [some (.ref 16), some (.int (I1 19 0))], [.int (1 : Int32), .int (I1 20 (Int32.toNatClampNeg (I1 19 0)))], (iq_sh l, I1, J, X))) (fun _ => rfl) ?_
      rcases iq_ite h with ⟨hc_, h⟩ | ⟨hc_, h⟩
      · refine iq_G_pos (c := ¬ (I1 20 (Int32.toNatClampNeg (I1 19 0))) = (1 : Int32)) (σ1 := (118, [some (.ref 16), some (.int (I1 19 0))], [], (iq_sh l, I1, J, X))) (fun _ => rfl) hc_ ?_
        refine iq_G_go (k := 8) (σ' := (130, [some (.ref 16), some (.int (I1 19 0))], [.int (7 : Int32), .int (((I1 16 1) + (7 : Int32)) - (1 : Int32)), .ref 16], (iq_sh l, I1, J, X))) (fun _ => rfl) ?_
        refine iq_G_go (k := 1) (σ' := (131, [some (.ref 16), some (.int (I1 19 0))], [.int ((((I1 16 1) + (7 : Int32)) - (1 : Int32)) - (((I1 16 1) + (7 : Int32)) - (1 : Int32)) / (7 : Int32) * (7 : Int32)), .ref 16], (iq_sh l, I1, J, X))) (fun _ => rfl) ?_
        refine iq_G_go (k := 1) (σ' := (134, [some (.ref 16), some (.int (I1 19 0))], [], (iq_sh l, (iq_upI I1 16 1 ((((I1 16 1) + (7 : Int32)) - (1 : Int32)) - (((I1 16 1) + (7 : Int32)) - (1 : Int32)) / (7 : Int32) * (7 : Int32))), J, X))) (fun _ => rfl) ?_
        obtain ⟨I2, eI2, h⟩ := ir_letG h
        rw [← eI2]
        clear eI2
        refine iq_G_go (k := 1) (σ' := (135, [some (.ref 16), some (.int (I1 19 0))], [.int (I1 19 0)], (iq_sh l, I2, J, X))) (fun _ => rfl) ?_
        cases h
        exact iq_G_ret (fun _ => rfl)
      · refine iq_G_neg (c := ¬ (I1 20 (Int32.toNatClampNeg (I1 19 0))) = (1 : Int32)) (σ1 := (84, [some (.ref 16), some (.int (I1 19 0))], [], (iq_sh l, I1, J, X))) (fun _ => rfl) hc_ ?_
        refine iq_G_go (k := 5) (σ' := (93, [some (.ref 16), some (.int (I1 19 0))], [.int (I1 19 0), .ref 21, .ref 16], (iq_sh l, I1, J, X))) (fun _ => rfl) ?_
        obtain ⟨hc_, h⟩ := iq_itn h
        refine iq_G_pos (c := iq_in (I1 19 0) 40) (σ1 := (94, [some (.ref 16), some (.int (I1 19 0))], [.int (I1 21 (Int32.toNatClampNeg (I1 19 0))), .ref 16], (iq_sh l, I1, J, X))) (fun _ => rfl) hc_ ?_
        refine iq_G_go (k := 4) (σ' := (102, [some (.ref 16), some (.int (I1 19 0))], [.int (I1 19 0), .ref 22, .int (I1 21 (Int32.toNatClampNeg (I1 19 0))), .ref 16], (iq_sh l, I1, J, X))) (fun _ => rfl) ?_
        obtain ⟨hc_, h⟩ := iq_itn h
        refine iq_G_pos (c := iq_in (I1 19 0) 40) (σ1 := (103, [some (.ref 16), some (.int (I1 19 0))], [.int (I1 22 (Int32.toNatClampNeg (I1 19 0))), .int (I1 21 (Int32.toNatClampNeg (I1 19 0))), .ref 16], (iq_sh l, I1, J, X))) (fun _ => rfl) hc_ ?_
        refine iq_G_go (k := 4) (σ' := (111, [some (.ref 16), some (.int (I1 19 0))], [.int (I1 19 0), .ref 23, .int (I1 22 (Int32.toNatClampNeg (I1 19 0))), .int (I1 21 (Int32.toNatClampNeg (I1 19 0))), .ref 16], (iq_sh l, I1, J, X))) (fun _ => rfl) ?_
        obtain ⟨hc_, h⟩ := iq_itn h
        refine iq_G_pos (c := iq_in (I1 19 0) 40) (σ1 := (112, [some (.ref 16), some (.int (I1 19 0))], [.int (I1 23 (Int32.toNatClampNeg (I1 19 0))), .int (I1 22 (Int32.toNatClampNeg (I1 19 0))), .int (I1 21 (Int32.toNatClampNeg (I1 19 0))), .ref 16], (iq_sh l, I1, J, X))) (fun _ => rfl) hc_ ?_
        obtain ⟨q3, hq3, h⟩ := iq_bnd h
        refine iq_G_call (σ' := (115, [some (.ref 16), some (.int (I1 19 0))], [], (iq_sh l, q3, J, X))) (fun _ => rfl) (zG_putIn_16_ok l (I1 21 (Int32.toNatClampNeg (I1 19 0))) (I1 22 (Int32.toNatClampNeg (I1 19 0))) (I1 23 (Int32.toNatClampNeg (I1 19 0))) I1 J X hq3) rfl rfl ?_
        refine iq_G_go (k := 2) (σ' := (135, [some (.ref 16), some (.int (I1 19 0))], [.int (I1 19 0)], (iq_sh l, q3, J, X))) (fun _ => rfl) ?_
        cases h
        exact iq_G_ret (fun _ => rfl)
    · refine iq_G_neg (c := ¬ (I1 20 (Int32.toNatClampNeg (I1 19 0))) = 0) (σ1 := (45, [some (.ref 16), some (.int (I1 19 0))], [], (iq_sh l, I1, J, X))) (fun _ => rfl) hc_ ?_
      refine iq_G_go (k := 5) (σ' := (54, [some (.ref 16), some (.int (I1 19 0))], [.int (I1 19 0), .ref 21, .ref 16], (iq_sh l, I1, J, X))) (fun _ => rfl) ?_
      obtain ⟨hc_, h⟩ := iq_itn h
      refine iq_G_pos (c := iq_in (I1 19 0) 40) (σ1 := (55, [some (.ref 16), some (.int (I1 19 0))], [.int (I1 21 (Int32.toNatClampNeg (I1 19 0))), .ref 16], (iq_sh l, I1, J, X))) (fun _ => rfl) hc_ ?_
      refine iq_G_go (k := 4) (σ' := (63, [some (.ref 16), some (.int (I1 19 0))], [.int (I1 19 0), .ref 22, .int (I1 21 (Int32.toNatClampNeg (I1 19 0))), .ref 16], (iq_sh l, I1, J, X))) (fun _ => rfl) ?_
      obtain ⟨hc_, h⟩ := iq_itn h
      refine iq_G_pos (c := iq_in (I1 19 0) 40) (σ1 := (64, [some (.ref 16), some (.int (I1 19 0))], [.int (I1 22 (Int32.toNatClampNeg (I1 19 0))), .int (I1 21 (Int32.toNatClampNeg (I1 19 0))), .ref 16], (iq_sh l, I1, J, X))) (fun _ => rfl) hc_ ?_
      obtain ⟨q4, hq4, h⟩ := iq_bnd h
      refine iq_G_call (σ' := (67, [some (.ref 16), some (.int (I1 19 0))], [.int q4.1], (iq_sh l, q4.2, J, X))) (fun _ => rfl) (zG_takeOut_ok l (I1 21 (Int32.toNatClampNeg (I1 19 0))) (I1 22 (Int32.toNatClampNeg (I1 19 0))) I1 J X hq4) rfl rfl ?_
      refine iq_G_go (k := 3) (σ' := (135, [some (.ref 16), some (.int (I1 19 0))], [.int (I1 19 0)], (iq_sh l, q4.2, J, X))) (fun _ => rfl) ?_
      cases h
      exact iq_G_ret (fun _ => rfl)
  · refine iq_G_neg (c := 0 < (I 19 0)) (σ1 := (10, [some (.ref 16), none], [], (iq_sh l, I, J, X))) (fun _ => rfl) hc_ ?_
    refine iq_G_go (k := 1) (σ' := (11, [some (.ref 16), none], [.int (-1 : Int32)], (iq_sh l, I, J, X))) (fun _ => rfl) ?_
    cases h
    exact iq_G_ret (fun _ => rfl)
set_option maxRecDepth 100000 in
theorem zO_undo_ok (l : Nat)   (I : iq_I) (J : iq_J) (X : iq_X) {q : Int32 × iq_I} (h : zO_undo I = some q) : iq_Cc 4 162 [.ref 1] (iq_sh l, I, J, X) (.inl (some (.int q.1)), (iq_sh l, q.2, J, X)) := by
  refine iq_Cc_of (L := [some (.ref 1)]) rfl rfl ?_
  unfold zO_undo at h
  refine iq_G_go (k := 2) (σ' := (4, [some (.ref 1)], [.ref 16], (iq_sh l, I, J, X))) (fun _ => rfl) ?_
  obtain ⟨q1, hq1, h⟩ := iq_bnd h
  refine iq_G_call (σ' := (7, [some (.ref 1)], [.int q1.1], (iq_sh l, q1.2, J, X))) (fun _ => rfl) (zG_undoLast_ok l  I J X hq1) rfl rfl ?_
  cases h
  exact iq_G_ret (fun _ => rfl)
set_option maxRecDepth 100000 in
theorem zM_undo_l26_bok (l : Nat)   (J : iq_J) (X : iq_X) (x1 : Int32) (I : iq_I) {q : (Int32 × iq_I) ⊕ (iq_I)} (h : zM_undo_l26_b  x1 I = some q) (r : iq_R × iq_M) (hc : ∀ v, q = .inl v → iq_Gg 0 242 (26, [some (.ref 76), some (.int v.1)], [], (iq_sh l, v.2, J, X)) r) (hx : ∀ w, q = .inr w → iq_Gg 0 242 (60, [some (.ref 76), none], [], (iq_sh l, w, J, X)) r) : iq_Gg 0 242 (26, [some (.ref 76), some (.int x1)], [], (iq_sh l, I, J, X)) r := by
  unfold zM_undo_l26_b at h
  refine iq_G_go (k := 2) (σ' := (30, [some (.ref 76), some (.int x1)], [.int (206 : Int32), .int x1], (iq_sh l, I, J, X))) (fun _ => rfl) ?_
  rcases iq_ite h with ⟨hc_, h⟩ | ⟨hc_, h⟩
  · refine iq_G_pos (c := (206 : Int32) ≤ x1) (σ1 := (60, [some (.ref 76), some (.int x1)], [], (iq_sh l, I, J, X))) (fun _ => rfl) hc_ ?_
    cases h
    exact iq_G_fg (L := [some (.ref 76), none]) (And.intro rfl trivial) (hx I rfl)
  · refine iq_G_neg (c := (206 : Int32) ≤ x1) (σ1 := (33, [some (.ref 76), some (.int x1)], [], (iq_sh l, I, J, X))) (fun _ => rfl) hc_ ?_
    refine iq_G_go (k := 11) (σ' := (52, [some (.ref 76), some (.int x1)], [.int (((206 : Int32) * (I 76 54)) + x1), .ref 100, .int x1, .ref 98], (iq_sh l, I, J, X))) (fun _ => rfl) ?_
    obtain ⟨hc_, h⟩ := iq_itn h
    refine iq_G_pos (c := iq_in (((206 : Int32) * (I 76 54)) + x1) 8240) (σ1 := (53, [some (.ref 76), some (.int x1)], [.int (I 100 (Int32.toNatClampNeg (((206 : Int32) * (I 76 54)) + x1))), .int x1, .ref 98], (iq_sh l, I, J, X))) (fun _ => rfl) hc_ ?_
    obtain ⟨hc_, h⟩ := iq_itn h
    refine iq_G_pos (c := iq_in x1 206) (σ1 := (54, [some (.ref 76), some (.int x1)], [], (iq_sh l, (iq_upI I 98 (Int32.toNatClampNeg x1) (I 100 (Int32.toNatClampNeg (((206 : Int32) * (I 76 54)) + x1)))), J, X))) (fun _ => rfl) hc_ ?_
    obtain ⟨I3, eI3, h⟩ := ir_letG h
    rw [← eI3]
    clear eI3
    refine iq_G_go (k := 2) (σ' := (26, [some (.ref 76), some (.int (x1 + (1 : Int32)))], [], (iq_sh l, I3, J, X))) (fun _ => rfl) ?_
    cases h
    exact iq_G_fg (L := [some (.ref 76), some (.int (x1 + (1 : Int32)))]) (And.intro rfl (And.intro rfl trivial)) (hc ((x1 + (1 : Int32)), I3) rfl)
set_option maxRecDepth 100000 in
theorem zM_undo_l26_ok (l : Nat)   (J : iq_J) (X : iq_X) {n : Nat} {v : Int32 × iq_I} {w : iq_I} (h : zM_undo_l26  n v = some w) (r : iq_R × iq_M) (hq : iq_Gg 0 242 (60, [some (.ref 76), none], [], (iq_sh l, w, J, X)) r) : iq_Gg 0 242 (26, [some (.ref 76), some (.int v.1)], [], (iq_sh l, v.2, J, X)) r :=
  iq_lp_ok (σ := fun v => (26, [some (.ref 76), some (.int v.1)], [], (iq_sh l, v.2, J, X))) (Q := fun w r => iq_Gg 0 242 (60, [some (.ref 76), none], [], (iq_sh l, w, J, X)) r) (fun v q hv r h1 h2 => zM_undo_l26_bok l J X v.1 v.2 hv r h1 h2) h r hq
set_option maxRecDepth 100000 in
theorem zM_undo_ok (l : Nat)   (I : iq_I) (J : iq_J) (X : iq_X) {q : Int32 × iq_I} (h : zM_undo I = some q) : iq_Cc 1 242 [.ref 76] (iq_sh l, I, J, X) (.inl (some (.int q.1)), (iq_sh l, q.2, J, X)) := by
  refine iq_Cc_of (L := [some (.ref 76), none]) rfl rfl ?_
  unfold zM_undo at h
  refine iq_G_go (k := 2) (σ' := (2, [some (.ref 76), none], [.int (0 : Int32), .ref 76], (iq_sh l, I, J, X))) (fun _ => rfl) ?_
  refine iq_G_go (k := 1) (σ' := (5, [some (.ref 76), none], [], (iq_sh l, (iq_upI I 76 0 (0 : Int32)), J, X))) (fun _ => rfl) ?_
  obtain ⟨I1, eI1, h⟩ := ir_letG h
  rw [← eI1]
  clear eI1
  refine iq_G_go (k := 2) (σ' := (9, [some (.ref 76), none], [.int (I1 76 54)], (iq_sh l, I1, J, X))) (fun _ => rfl) ?_
  rcases iq_ite h with ⟨hc_, h⟩ | ⟨hc_, h⟩
  · refine iq_G_pos (c := ¬ (I1 76 54) = 0) (σ1 := (14, [some (.ref 76), none], [], (iq_sh l, I1, J, X))) (fun _ => rfl) hc_ ?_
    refine iq_G_go (k := 5) (σ' := (21, [some (.ref 76), none], [.int ((I1 76 54) - (1 : Int32)), .ref 76], (iq_sh l, I1, J, X))) (fun _ => rfl) ?_
    refine iq_G_go (k := 1) (σ' := (24, [some (.ref 76), none], [], (iq_sh l, (iq_upI I1 76 54 ((I1 76 54) - (1 : Int32))), J, X))) (fun _ => rfl) ?_
    obtain ⟨I2, eI2, h⟩ := ir_letG h
    rw [← eI2]
    clear eI2
    refine iq_G_go (k := 2) (σ' := (26, [some (.ref 76), some (.int (0 : Int32))], [], (iq_sh l, I2, J, X))) (fun _ => rfl) ?_
    obtain ⟨w4, hw4, h⟩ := iq_bnd h
    refine iq_G_fg (L := [some (.ref 76), some (.int (0 : Int32))]) (And.intro rfl (And.intro rfl trivial)) ?_
    refine zM_undo_l26_ok l J X hw4 _ ?_
    show iq_Gg 0 242 (60, [some (.ref 76), none], [], (iq_sh l, w4, J, X)) _
    refine iq_G_go (k := 2) (σ' := (64, [some (.ref 76), none], [.int (w4 76 54)], (iq_sh l, w4, J, X))) (fun _ => rfl) ?_
    cases h
    exact iq_G_ret (fun _ => rfl)
  · refine iq_G_neg (c := ¬ (I1 76 54) = 0) (σ1 := (12, [some (.ref 76), none], [], (iq_sh l, I1, J, X))) (fun _ => rfl) hc_ ?_
    refine iq_G_go (k := 1) (σ' := (13, [some (.ref 76), none], [.int (-1 : Int32)], (iq_sh l, I1, J, X))) (fun _ => rfl) ?_
    cases h
    exact iq_G_ret (fun _ => rfl)
set_option maxRecDepth 100000 in
theorem zG_nextDay_16_ok (l : Nat)   (I : iq_I) (J : iq_J) (X : iq_X) {q : iq_I} (h : zG_nextDay_16 I = some q) : iq_Cc 1 15 [.ref 16] (iq_sh l, I, J, X) (.inl none, (iq_sh l, q, J, X)) := by
  refine iq_Cc_of (L := [some (.ref 16)]) rfl rfl ?_
  unfold zG_nextDay_16 at h
  refine iq_G_go (k := 6) (σ' := (9, [some (.ref 16)], [.int (7 : Int32), .int ((I 16 1) + (1 : Int32)), .ref 16], (iq_sh l, I, J, X))) (fun _ => rfl) ?_
  refine iq_G_go (k := 1) (σ' := (10, [some (.ref 16)], [.int (((I 16 1) + (1 : Int32)) - ((I 16 1) + (1 : Int32)) / (7 : Int32) * (7 : Int32)), .ref 16], (iq_sh l, I, J, X))) (fun _ => rfl) ?_
  refine iq_G_go (k := 1) (σ' := (13, [some (.ref 16)], [], (iq_sh l, (iq_upI I 16 1 (((I 16 1) + (1 : Int32)) - ((I 16 1) + (1 : Int32)) / (7 : Int32) * (7 : Int32))), J, X))) (fun _ => rfl) ?_
  obtain ⟨I1, eI1, h⟩ := ir_letG h
  rw [← eI1]
  clear eI1
  cases h
  exact iq_G_ret (fun _ => rfl)
set_option maxRecDepth 100000 in
theorem zA_forgetOldest_ok (l : Nat)   (I : iq_I) (J : iq_J) (X : iq_X) {q : iq_I} (h : zA_forgetOldest I = some q) : iq_Cc 1 2 [.ref 19] (iq_sh l, I, J, X) (.inl none, (iq_sh l, q, J, X)) := by
  refine iq_Cc_of (L := [some (.ref 19)]) rfl rfl ?_
  unfold zA_forgetOldest at h
  refine iq_G_go (k := 2) (σ' := (3, [some (.ref 19)], [.int (39 : Int32), .ref 19], (iq_sh l, I, J, X))) (fun _ => rfl) ?_
  refine iq_G_go (k := 1) (σ' := (6, [some (.ref 19)], [], (iq_sh l, (iq_upI I 19 0 (39 : Int32)), J, X))) (fun _ => rfl) ?_
  obtain ⟨I1, eI1, h⟩ := ir_letG h
  rw [← eI1]
  clear eI1
  refine iq_G_go (k := 8) (σ' := (20, [some (.ref 19)], [.int (I1 19 0), .int (0 : Int32), .ref 20, .int (1 : Int32), .ref 20], (iq_sh l, I1, J, X))) (fun _ => rfl) ?_
  obtain ⟨hc_, h⟩ := iq_itn h
  refine iq_G_pos (c := 0 ≤ (1 : Int32) ∧ 0 ≤ (0 : Int32) ∧ 0 ≤ (I1 19 0) ∧ Int32.toNatClampNeg (1 : Int32) + Int32.toNatClampNeg (I1 19 0) ≤ 40 ∧ Int32.toNatClampNeg (0 : Int32) + Int32.toNatClampNeg (I1 19 0) ≤ 40) (σ1 := (23, [some (.ref 19)], [], (iq_sh l, (iq_cpI I1 20 20 1 0 (Int32.toNatClampNeg (I1 19 0))), J, X))) (fun _ => rfl) hc_ ?_
  obtain ⟨I2, eI2, h⟩ := ir_letG h
  rw [← eI2]
  clear eI2
  refine iq_G_go (k := 8) (σ' := (37, [some (.ref 19)], [.int (I2 19 0), .int (0 : Int32), .ref 21, .int (1 : Int32), .ref 21], (iq_sh l, I2, J, X))) (fun _ => rfl) ?_
  obtain ⟨hc_, h⟩ := iq_itn h
  refine iq_G_pos (c := 0 ≤ (1 : Int32) ∧ 0 ≤ (0 : Int32) ∧ 0 ≤ (I2 19 0) ∧ Int32.toNatClampNeg (1 : Int32) + Int32.toNatClampNeg (I2 19 0) ≤ 40 ∧ Int32.toNatClampNeg (0 : Int32) + Int32.toNatClampNeg (I2 19 0) ≤ 40) (σ1 := (40, [some (.ref 19)], [], (iq_sh l, (iq_cpI I2 21 21 1 0 (Int32.toNatClampNeg (I2 19 0))), J, X))) (fun _ => rfl) hc_ ?_
  obtain ⟨I3, eI3, h⟩ := ir_letG h
  rw [← eI3]
  clear eI3
  refine iq_G_go (k := 8) (σ' := (54, [some (.ref 19)], [.int (I3 19 0), .int (0 : Int32), .ref 22, .int (1 : Int32), .ref 22], (iq_sh l, I3, J, X))) (fun _ => rfl) ?_
  obtain ⟨hc_, h⟩ := iq_itn h
  refine iq_G_pos (c := 0 ≤ (1 : Int32) ∧ 0 ≤ (0 : Int32) ∧ 0 ≤ (I3 19 0) ∧ Int32.toNatClampNeg (1 : Int32) + Int32.toNatClampNeg (I3 19 0) ≤ 40 ∧ Int32.toNatClampNeg (0 : Int32) + Int32.toNatClampNeg (I3 19 0) ≤ 40) (σ1 := (57, [some (.ref 19)], [], (iq_sh l, (iq_cpI I3 22 22 1 0 (Int32.toNatClampNeg (I3 19 0))), J, X))) (fun _ => rfl) hc_ ?_
  obtain ⟨I4, eI4, h⟩ := ir_letG h
  rw [← eI4]
  clear eI4
  refine iq_G_go (k := 8) (σ' := (71, [some (.ref 19)], [.int (I4 19 0), .int (0 : Int32), .ref 23, .int (1 : Int32), .ref 23], (iq_sh l, I4, J, X))) (fun _ => rfl) ?_
  obtain ⟨hc_, h⟩ := iq_itn h
  refine iq_G_pos (c := 0 ≤ (1 : Int32) ∧ 0 ≤ (0 : Int32) ∧ 0 ≤ (I4 19 0) ∧ Int32.toNatClampNeg (1 : Int32) + Int32.toNatClampNeg (I4 19 0) ≤ 40 ∧ Int32.toNatClampNeg (0 : Int32) + Int32.toNatClampNeg (I4 19 0) ≤ 40) (σ1 := (74, [some (.ref 19)], [], (iq_sh l, (iq_cpI I4 23 23 1 0 (Int32.toNatClampNeg (I4 19 0))), J, X))) (fun _ => rfl) hc_ ?_
  obtain ⟨I5, eI5, h⟩ := ir_letG h
  rw [← eI5]
  clear eI5
  cases h
  exact iq_G_ret (fun _ => rfl)
set_option maxRecDepth 100000 in
theorem zA_keep_13_ok (l : Nat)  (x1 : Int32) (x2 : Int32) (x3 : Int32) (x4 : Int32) (I : iq_I) (J : iq_J) (X : iq_X)  {q : iq_I} (h : zA_keep_13 x1 x2 x3 x4 I = some q)  : iq_Gg 1 1 (13, [some (.ref 19), some (.int x1), some (.int x2), some (.int x3), some (.int x4)], [], (iq_sh l, I, J, X)) (.inl none, (iq_sh l, q, J, X)) := by
  unfold zA_keep_13 at h
  refine iq_G_go (k := 5) (σ' := (22, [some (.ref 19), some (.int x1), some (.int x2), some (.int x3), some (.int x4)], [.int x1, .int (I 19 0), .ref 20], (iq_sh l, I, J, X))) (fun _ => rfl) ?_
  obtain ⟨hc_, h⟩ := iq_itn h
  refine iq_G_pos (c := iq_in (I 19 0) 40) (σ1 := (23, [some (.ref 19), some (.int x1), some (.int x2), some (.int x3), some (.int x4)], [], (iq_sh l, (iq_upI I 20 (Int32.toNatClampNeg (I 19 0)) x1), J, X))) (fun _ => rfl) hc_ ?_
  obtain ⟨I1, eI1, h⟩ := ir_letG h
  rw [← eI1]
  clear eI1
  refine iq_G_go (k := 5) (σ' := (32, [some (.ref 19), some (.int x1), some (.int x2), some (.int x3), some (.int x4)], [.int x2, .int (I1 19 0), .ref 21], (iq_sh l, I1, J, X))) (fun _ => rfl) ?_
  obtain ⟨hc_, h⟩ := iq_itn h
  refine iq_G_pos (c := iq_in (I1 19 0) 40) (σ1 := (33, [some (.ref 19), some (.int x1), some (.int x2), some (.int x3), some (.int x4)], [], (iq_sh l, (iq_upI I1 21 (Int32.toNatClampNeg (I1 19 0)) x2), J, X))) (fun _ => rfl) hc_ ?_
  obtain ⟨I2, eI2, h⟩ := ir_letG h
  rw [← eI2]
  clear eI2
  refine iq_G_go (k := 5) (σ' := (42, [some (.ref 19), some (.int x1), some (.int x2), some (.int x3), some (.int x4)], [.int x3, .int (I2 19 0), .ref 22], (iq_sh l, I2, J, X))) (fun _ => rfl) ?_
  obtain ⟨hc_, h⟩ := iq_itn h
  refine iq_G_pos (c := iq_in (I2 19 0) 40) (σ1 := (43, [some (.ref 19), some (.int x1), some (.int x2), some (.int x3), some (.int x4)], [], (iq_sh l, (iq_upI I2 22 (Int32.toNatClampNeg (I2 19 0)) x3), J, X))) (fun _ => rfl) hc_ ?_
  obtain ⟨I3, eI3, h⟩ := ir_letG h
  rw [← eI3]
  clear eI3
  refine iq_G_go (k := 5) (σ' := (53, [some (.ref 19), some (.int x1), some (.int x2), some (.int x3), some (.int x4)], [.int x4, .int (I3 19 0), .ref 23], (iq_sh l, I3, J, X))) (fun _ => rfl) ?_
  obtain ⟨hc_, h⟩ := iq_itn h
  refine iq_G_pos (c := iq_in (I3 19 0) 40) (σ1 := (54, [some (.ref 19), some (.int x1), some (.int x2), some (.int x3), some (.int x4)], [], (iq_sh l, (iq_upI I3 23 (Int32.toNatClampNeg (I3 19 0)) x4), J, X))) (fun _ => rfl) hc_ ?_
  obtain ⟨I4, eI4, h⟩ := ir_letG h
  rw [← eI4]
  clear eI4
  refine iq_G_go (k := 5) (σ' := (61, [some (.ref 19), some (.int x1), some (.int x2), some (.int x3), some (.int x4)], [.int ((I4 19 0) + (1 : Int32)), .ref 19], (iq_sh l, I4, J, X))) (fun _ => rfl) ?_
  refine iq_G_go (k := 1) (σ' := (64, [some (.ref 19), some (.int x1), some (.int x2), some (.int x3), some (.int x4)], [], (iq_sh l, (iq_upI I4 19 0 ((I4 19 0) + (1 : Int32))), J, X))) (fun _ => rfl) ?_
  obtain ⟨I5, eI5, h⟩ := ir_letG h
  rw [← eI5]
  clear eI5
  cases h
  exact iq_G_ret (fun _ => rfl)
set_option maxRecDepth 100000 in
theorem zA_keep_ok (l : Nat)  (x1 : Int32) (x2 : Int32) (x3 : Int32) (x4 : Int32) (I : iq_I) (J : iq_J) (X : iq_X) {q : iq_I} (h : zA_keep x1 x2 x3 x4 I = some q) : iq_Cc 2 1 [.ref 19, .int x1, .int x2, .int x3, .int x4] (iq_sh l, I, J, X) (.inl none, (iq_sh l, q, J, X)) := by
  refine iq_Cc_of (L := [some (.ref 19), some (.int x1), some (.int x2), some (.int x3), some (.int x4)]) rfl rfl ?_
  unfold zA_keep at h
  refine iq_G_go (k := 3) (σ' := (6, [some (.ref 19), some (.int x1), some (.int x2), some (.int x3), some (.int x4)], [.int (40 : Int32), .int (I 19 0)], (iq_sh l, I, J, X))) (fun _ => rfl) ?_
  rcases iq_ite h with ⟨hc_, h⟩ | ⟨hc_, h⟩
  · refine iq_G_pos (c := (I 19 0) < (40 : Int32)) (σ1 := (13, [some (.ref 19), some (.int x1), some (.int x2), some (.int x3), some (.int x4)], [], (iq_sh l, I, J, X))) (fun _ => rfl) hc_ ?_
    exact iq_G_fg (L := [some (.ref 19), some (.int x1), some (.int x2), some (.int x3), some (.int x4)]) (And.intro rfl (And.intro rfl (And.intro rfl (And.intro rfl (And.intro rfl trivial))))) (zA_keep_13_ok l x1 x2 x3 x4 I J X  h )
  · refine iq_G_neg (c := (I 19 0) < (40 : Int32)) (σ1 := (9, [some (.ref 19), some (.int x1), some (.int x2), some (.int x3), some (.int x4)], [], (iq_sh l, I, J, X))) (fun _ => rfl) hc_ ?_
    refine iq_G_go (k := 1) (σ' := (10, [some (.ref 19), some (.int x1), some (.int x2), some (.int x3), some (.int x4)], [.ref 19], (iq_sh l, I, J, X))) (fun _ => rfl) ?_
    obtain ⟨q6, hq6, h⟩ := iq_bnd h
    refine iq_G_call (σ' := (13, [some (.ref 19), some (.int x1), some (.int x2), some (.int x3), some (.int x4)], [], (iq_sh l, q6, J, X))) (fun _ => rfl) (zA_forgetOldest_ok l  I J X hq6) rfl rfl ?_
    exact iq_G_fg (L := [some (.ref 19), some (.int x1), some (.int x2), some (.int x3), some (.int x4)]) (And.intro rfl (And.intro rfl (And.intro rfl (And.intro rfl (And.intro rfl trivial))))) (zA_keep_13_ok l x1 x2 x3 x4 q6 J X  h )
set_option maxRecDepth 100000 in
theorem zO_day_ok (l : Nat)   (I : iq_I) (J : iq_J) (X : iq_X) {q : Int32 × iq_I} (h : zO_day I = some q) : iq_Cc 3 161 [.ref 1] (iq_sh l, I, J, X) (.inl (some (.int q.1)), (iq_sh l, q.2, J, X)) := by
  refine iq_Cc_of (L := [some (.ref 1)]) rfl rfl ?_
  unfold zO_day at h
  refine iq_G_go (k := 2) (σ' := (4, [some (.ref 1)], [.ref 16], (iq_sh l, I, J, X))) (fun _ => rfl) ?_
  obtain ⟨q1, hq1, h⟩ := iq_bnd h
  refine iq_G_call (σ' := (7, [some (.ref 1)], [], (iq_sh l, q1, J, X))) (fun _ => rfl) (zG_nextDay_16_ok l  I J X hq1) rfl rfl ?_
  refine iq_G_go (k := 7) (σ' := (18, [some (.ref 1)], [.int (0 : Int32), .int (0 : Int32), .int (0 : Int32), .int (2 : Int32), .ref 19], (iq_sh l, q1, J, X))) (fun _ => rfl) ?_
  obtain ⟨q2, hq2, h⟩ := iq_bnd h
  refine iq_G_call (σ' := (21, [some (.ref 1)], [], (iq_sh l, q2, J, X))) (fun _ => rfl) (zA_keep_ok l (2 : Int32) (0 : Int32) (0 : Int32) (0 : Int32) q1 J X hq2) rfl rfl ?_
  refine iq_G_go (k := 3) (σ' := (28, [some (.ref 1)], [.int (q2 16 1)], (iq_sh l, q2, J, X))) (fun _ => rfl) ?_
  cases h
  exact iq_G_ret (fun _ => rfl)
set_option maxRecDepth 100000 in
theorem zM_keeps_l54_bok (l : Nat)   (J : iq_J) (X : iq_X) (x1 : Int32) (I : iq_I) {q : (Int32 × iq_I) ⊕ (iq_I)} (h : zM_keeps_l54_b  x1 I = some q) (r : iq_R × iq_M) (hc : ∀ v, q = .inl v → iq_Gg 0 240 (54, [some (.ref 76), some (.int v.1)], [], (iq_sh l, v.2, J, X)) r) (hx : ∀ w, q = .inr w → iq_Gg 0 240 (88, [some (.ref 76), none], [], (iq_sh l, w, J, X)) r) : iq_Gg 0 240 (54, [some (.ref 76), some (.int x1)], [], (iq_sh l, I, J, X)) r := by
  unfold zM_keeps_l54_b at h
  refine iq_G_go (k := 2) (σ' := (58, [some (.ref 76), some (.int x1)], [.int (206 : Int32), .int x1], (iq_sh l, I, J, X))) (fun _ => rfl) ?_
  rcases iq_ite h with ⟨hc_, h⟩ | ⟨hc_, h⟩
  · refine iq_G_pos (c := (206 : Int32) ≤ x1) (σ1 := (88, [some (.ref 76), some (.int x1)], [], (iq_sh l, I, J, X))) (fun _ => rfl) hc_ ?_
    cases h
    exact iq_G_fg (L := [some (.ref 76), none]) (And.intro rfl trivial) (hx I rfl)
  · refine iq_G_neg (c := (206 : Int32) ≤ x1) (σ1 := (61, [some (.ref 76), some (.int x1)], [], (iq_sh l, I, J, X))) (fun _ => rfl) hc_ ?_
    refine iq_G_go (k := 11) (σ' := (80, [some (.ref 76), some (.int x1)], [.int x1, .ref 98, .int (((206 : Int32) * (I 76 54)) + x1), .ref 100], (iq_sh l, I, J, X))) (fun _ => rfl) ?_
    obtain ⟨hc_, h⟩ := iq_itn h
    refine iq_G_pos (c := iq_in x1 206) (σ1 := (81, [some (.ref 76), some (.int x1)], [.int (I 98 (Int32.toNatClampNeg x1)), .int (((206 : Int32) * (I 76 54)) + x1), .ref 100], (iq_sh l, I, J, X))) (fun _ => rfl) hc_ ?_
    obtain ⟨hc_, h⟩ := iq_itn h
    refine iq_G_pos (c := iq_in (((206 : Int32) * (I 76 54)) + x1) 8240) (σ1 := (82, [some (.ref 76), some (.int x1)], [], (iq_sh l, (iq_upI I 100 (Int32.toNatClampNeg (((206 : Int32) * (I 76 54)) + x1)) (I 98 (Int32.toNatClampNeg x1))), J, X))) (fun _ => rfl) hc_ ?_
    obtain ⟨I1, eI1, h⟩ := ir_letG h
    rw [← eI1]
    clear eI1
    refine iq_G_go (k := 2) (σ' := (54, [some (.ref 76), some (.int (x1 + (1 : Int32)))], [], (iq_sh l, I1, J, X))) (fun _ => rfl) ?_
    cases h
    exact iq_G_fg (L := [some (.ref 76), some (.int (x1 + (1 : Int32)))]) (And.intro rfl (And.intro rfl trivial)) (hc ((x1 + (1 : Int32)), I1) rfl)
set_option maxRecDepth 100000 in
theorem zM_keeps_l54_ok (l : Nat)   (J : iq_J) (X : iq_X) {n : Nat} {v : Int32 × iq_I} {w : iq_I} (h : zM_keeps_l54  n v = some w) (r : iq_R × iq_M) (hq : iq_Gg 0 240 (88, [some (.ref 76), none], [], (iq_sh l, w, J, X)) r) : iq_Gg 0 240 (54, [some (.ref 76), some (.int v.1)], [], (iq_sh l, v.2, J, X)) r :=
  iq_lp_ok (σ := fun v => (54, [some (.ref 76), some (.int v.1)], [], (iq_sh l, v.2, J, X))) (Q := fun w r => iq_Gg 0 240 (88, [some (.ref 76), none], [], (iq_sh l, w, J, X)) r) (fun v q hv r h1 h2 => zM_keeps_l54_bok l J X v.1 v.2 hv r h1 h2) h r hq
set_option maxRecDepth 100000 in
theorem zM_keeps_52_ok (l : Nat)   (I : iq_I) (J : iq_J) (X : iq_X)  {q : iq_I} (h : zM_keeps_52 I = some q)  : iq_Gg 0 240 (52, [some (.ref 76), none], [], (iq_sh l, I, J, X)) (.inl none, (iq_sh l, q, J, X)) := by
  unfold zM_keeps_52 at h
  refine iq_G_go (k := 2) (σ' := (54, [some (.ref 76), some (.int (0 : Int32))], [], (iq_sh l, I, J, X))) (fun _ => rfl) ?_
  obtain ⟨w2, hw2, h⟩ := iq_bnd h
  refine iq_G_fg (L := [some (.ref 76), some (.int (0 : Int32))]) (And.intro rfl (And.intro rfl trivial)) ?_
  refine zM_keeps_l54_ok l J X hw2 _ ?_
  show iq_Gg 0 240 (88, [some (.ref 76), none], [], (iq_sh l, w2, J, X)) _
  refine iq_G_go (k := 5) (σ' := (95, [some (.ref 76), none], [.int ((w2 76 54) + (1 : Int32)), .ref 76], (iq_sh l, w2, J, X))) (fun _ => rfl) ?_
  refine iq_G_go (k := 1) (σ' := (98, [some (.ref 76), none], [], (iq_sh l, (iq_upI w2 76 54 ((w2 76 54) + (1 : Int32))), J, X))) (fun _ => rfl) ?_
  obtain ⟨I3, eI3, h⟩ := ir_letG h
  rw [← eI3]
  clear eI3
  cases h
  exact iq_G_ret (fun _ => rfl)
set_option maxRecDepth 100000 in
theorem zM_keeps_l13_bok (l : Nat)   (J : iq_J) (X : iq_X) (x1 : Int32) (I : iq_I) {q : (Int32 × iq_I) ⊕ (iq_I)} (h : zM_keeps_l13_b  x1 I = some q) (r : iq_R × iq_M) (hc : ∀ v, q = .inl v → iq_Gg 0 240 (13, [some (.ref 76), some (.int v.1)], [], (iq_sh l, v.2, J, X)) r) (hx : ∀ w, q = .inr w → iq_Gg 0 240 (42, [some (.ref 76), none], [], (iq_sh l, w, J, X)) r) : iq_Gg 0 240 (13, [some (.ref 76), some (.int x1)], [], (iq_sh l, I, J, X)) r := by
  unfold zM_keeps_l13_b at h
  refine iq_G_go (k := 2) (σ' := (17, [some (.ref 76), some (.int x1)], [.int (8240 : Int32), .int x1], (iq_sh l, I, J, X))) (fun _ => rfl) ?_
  rcases iq_ite h with ⟨hc_, h⟩ | ⟨hc_, h⟩
  · refine iq_G_pos (c := (8240 : Int32) ≤ x1) (σ1 := (42, [some (.ref 76), some (.int x1)], [], (iq_sh l, I, J, X))) (fun _ => rfl) hc_ ?_
    cases h
    exact iq_G_fg (L := [some (.ref 76), none]) (And.intro rfl trivial) (hx I rfl)
  · refine iq_G_neg (c := (8240 : Int32) ≤ x1) (σ1 := (20, [some (.ref 76), some (.int x1)], [], (iq_sh l, I, J, X))) (fun _ => rfl) hc_ ?_
    refine iq_G_go (k := 8) (σ' := (34, [some (.ref 76), some (.int x1)], [.int x1, .ref 100, .int (x1 - (206 : Int32)), .ref 100], (iq_sh l, I, J, X))) (fun _ => rfl) ?_
    obtain ⟨hc_, h⟩ := iq_itn h
    refine iq_G_pos (c := iq_in x1 8240) (σ1 := (35, [some (.ref 76), some (.int x1)], [.int (I 100 (Int32.toNatClampNeg x1)), .int (x1 - (206 : Int32)), .ref 100], (iq_sh l, I, J, X))) (fun _ => rfl) hc_ ?_
    obtain ⟨hc_, h⟩ := iq_itn h
    have st_ : ∀ (z_0 : Int32) (r_ : iq_R × iq_M), iq_in z_0 8240 → iq_Gg 0 240 (36, [some (.ref 76), some (.int x1)], [], (iq_sh l, (iq_upI I 100 (Int32.toNatClampNeg z_0) (I 100 (Int32.toNatClampNeg x1))), J, X)) r_ → iq_Gg 0 240 (35, [some (.ref 76), some (.int x1)], [.int (I 100 (Int32.toNatClampNeg x1)), .int z_0, .ref 100], (iq_sh l, I, J, X)) r_ := fun z_0 r_ hc_ hg_ => iq_G_pos (c := iq_in z_0 8240) (σ1 := (36, [some (.ref 76), some (.int x1)], [], (iq_sh l, (iq_upI I 100 (Int32.toNatClampNeg z_0) (I 100 (Int32.toNatClampNeg x1))), J, X))) (fun _ => rfl) hc_ hg_
    refine st_ (x1 - (206 : Int32)) _ hc_ ?_
    clear st_
    obtain ⟨I4, eI4, h⟩ := ir_letG h
    rw [← eI4]
    clear eI4
    refine iq_G_go (k := 2) (σ' := (13, [some (.ref 76), some (.int (x1 + (1 : Int32)))], [], (iq_sh l, I4, J, X))) (fun _ => rfl) ?_
    cases h
    exact iq_G_fg (L := [some (.ref 76), some (.int (x1 + (1 : Int32)))]) (And.intro rfl (And.intro rfl trivial)) (hc ((x1 + (1 : Int32)), I4) rfl)
set_option maxRecDepth 100000 in
theorem zM_keeps_l13_ok (l : Nat)   (J : iq_J) (X : iq_X) {n : Nat} {v : Int32 × iq_I} {w : iq_I} (h : zM_keeps_l13  n v = some w) (r : iq_R × iq_M) (hq : iq_Gg 0 240 (42, [some (.ref 76), none], [], (iq_sh l, w, J, X)) r) : iq_Gg 0 240 (13, [some (.ref 76), some (.int v.1)], [], (iq_sh l, v.2, J, X)) r :=
  iq_lp_ok (σ := fun v => (13, [some (.ref 76), some (.int v.1)], [], (iq_sh l, v.2, J, X))) (Q := fun w r => iq_Gg 0 240 (42, [some (.ref 76), none], [], (iq_sh l, w, J, X)) r) (fun v q hv r h1 h2 => zM_keeps_l13_bok l J X v.1 v.2 hv r h1 h2) h r hq
set_option maxRecDepth 100000 in
theorem zM_keeps_ok (l : Nat)   (I : iq_I) (J : iq_J) (X : iq_X) {q : iq_I} (h : zM_keeps I = some q) : iq_Cc 1 240 [.ref 76] (iq_sh l, I, J, X) (.inl none, (iq_sh l, q, J, X)) := by
  refine iq_Cc_of (L := [some (.ref 76), none]) rfl rfl ?_
  unfold zM_keeps at h
  refine iq_G_go (k := 3) (σ' := (6, [some (.ref 76), none], [.int (40 : Int32), .int (I 76 54)], (iq_sh l, I, J, X))) (fun _ => rfl) ?_
  rcases iq_ite h with ⟨hc_, h⟩ | ⟨hc_, h⟩
  · refine iq_G_pos (c := ¬ (I 76 54) = (40 : Int32)) (σ1 := (52, [some (.ref 76), none], [], (iq_sh l, I, J, X))) (fun _ => rfl) hc_ ?_
    exact iq_G_fg (L := [some (.ref 76), none]) (And.intro rfl trivial) (zM_keeps_52_ok l I J X  h )
  · refine iq_G_neg (c := ¬ (I 76 54) = (40 : Int32)) (σ1 := (9, [some (.ref 76), none], [], (iq_sh l, I, J, X))) (fun _ => rfl) hc_ ?_
    refine iq_G_go (k := 2) (σ' := (13, [some (.ref 76), some (.int (206 : Int32))], [], (iq_sh l, I, J, X))) (fun _ => rfl) ?_
    obtain ⟨w5, hw5, h⟩ := iq_bnd h
    refine iq_G_fg (L := [some (.ref 76), some (.int (206 : Int32))]) (And.intro rfl (And.intro rfl trivial)) ?_
    refine zM_keeps_l13_ok l J X hw5 _ ?_
    show iq_Gg 0 240 (42, [some (.ref 76), none], [], (iq_sh l, w5, J, X)) _
    refine iq_G_go (k := 5) (σ' := (49, [some (.ref 76), none], [.int ((w5 76 54) - (1 : Int32)), .ref 76], (iq_sh l, w5, J, X))) (fun _ => rfl) ?_
    refine iq_G_go (k := 1) (σ' := (52, [some (.ref 76), none], [], (iq_sh l, (iq_upI w5 76 54 ((w5 76 54) - (1 : Int32))), J, X))) (fun _ => rfl) ?_
    obtain ⟨I6, eI6, h⟩ := ir_letG h
    rw [← eI6]
    clear eI6
    exact iq_G_fg (L := [some (.ref 76), none]) (And.intro rfl trivial) (zM_keeps_52_ok l I6 J X  h )
set_option maxRecDepth 100000 in
theorem zM_day_ok (l : Nat)   (I : iq_I) (J : iq_J) (X : iq_X) {q : Int32 × iq_I} (h : zM_day I = some q) : iq_Cc 2 269 [.ref 76] (iq_sh l, I, J, X) (.inl (some (.int q.1)), (iq_sh l, q.2, J, X)) := by
  refine iq_Cc_of (L := [some (.ref 76)]) rfl rfl ?_
  unfold zM_day at h
  refine iq_G_go (k := 2) (σ' := (2, [some (.ref 76)], [.int (0 : Int32), .ref 76], (iq_sh l, I, J, X))) (fun _ => rfl) ?_
  refine iq_G_go (k := 1) (σ' := (5, [some (.ref 76)], [], (iq_sh l, (iq_upI I 76 0 (0 : Int32)), J, X))) (fun _ => rfl) ?_
  obtain ⟨I1, eI1, h⟩ := ir_letG h
  rw [← eI1]
  clear eI1
  refine iq_G_go (k := 1) (σ' := (6, [some (.ref 76)], [.ref 76], (iq_sh l, I1, J, X))) (fun _ => rfl) ?_
  obtain ⟨q2, hq2, h⟩ := iq_bnd h
  refine iq_G_call (σ' := (9, [some (.ref 76)], [], (iq_sh l, q2, J, X))) (fun _ => rfl) (zM_keeps_ok l  I1 J X hq2) rfl rfl ?_
  refine iq_G_go (k := 6) (σ' := (19, [some (.ref 76)], [.int (5 : Int32), .ref 98, .int (5 : Int32), .ref 98], (iq_sh l, q2, J, X))) (fun _ => rfl) ?_
  refine iq_G_go (k := 1) (σ' := (20, [some (.ref 76)], [.int (q2 98 5), .int (5 : Int32), .ref 98], (iq_sh l, q2, J, X))) (fun _ => rfl) ?_
  refine iq_G_go (k := 3) (σ' := (24, [some (.ref 76)], [.int (7 : Int32), .int ((q2 98 5) + (1 : Int32)), .int (5 : Int32), .ref 98], (iq_sh l, q2, J, X))) (fun _ => rfl) ?_
  refine iq_G_go (k := 1) (σ' := (25, [some (.ref 76)], [.int (((q2 98 5) + (1 : Int32)) - ((q2 98 5) + (1 : Int32)) / (7 : Int32) * (7 : Int32)), .int (5 : Int32), .ref 98], (iq_sh l, q2, J, X))) (fun _ => rfl) ?_
  refine iq_G_go (k := 1) (σ' := (26, [some (.ref 76)], [], (iq_sh l, (iq_upI q2 98 5 (((q2 98 5) + (1 : Int32)) - ((q2 98 5) + (1 : Int32)) / (7 : Int32) * (7 : Int32))), J, X))) (fun _ => rfl) ?_
  obtain ⟨I3, eI3, h⟩ := ir_letG h
  rw [← eI3]
  clear eI3
  refine iq_G_go (k := 3) (σ' := (31, [some (.ref 76)], [.int (5 : Int32), .ref 98], (iq_sh l, I3, J, X))) (fun _ => rfl) ?_
  refine iq_G_go (k := 1) (σ' := (32, [some (.ref 76)], [.int (I3 98 5)], (iq_sh l, I3, J, X))) (fun _ => rfl) ?_
  cases h
  exact iq_G_ret (fun _ => rfl)
set_option maxRecDepth 100000 in
theorem zO_refuseAct_ok (l : Nat)   (I : iq_I) (J : iq_J) (X : iq_X) {q : Int32 × iq_I} (h : zO_refuseAct I = some q) : iq_Cc 1 191 [.ref 1] (iq_sh l, I, J, X) (.inl (some (.int q.1)), (iq_sh l, q.2, J, X)) := by
  refine iq_Cc_of (L := [some (.ref 1)]) rfl rfl ?_
  unfold zO_refuseAct at h
  refine iq_G_go (k := 4) (σ' := (6, [some (.ref 1)], [.int (1 : Int32), .ref 3, .int (1 : Int32), .ref 3], (iq_sh l, I, J, X))) (fun _ => rfl) ?_
  refine iq_G_go (k := 1) (σ' := (7, [some (.ref 1)], [.int (I 3 1), .int (1 : Int32), .ref 3], (iq_sh l, I, J, X))) (fun _ => rfl) ?_
  refine iq_G_go (k := 2) (σ' := (9, [some (.ref 1)], [.int ((I 3 1) + (1 : Int32)), .int (1 : Int32), .ref 3], (iq_sh l, I, J, X))) (fun _ => rfl) ?_
  refine iq_G_go (k := 1) (σ' := (10, [some (.ref 1)], [], (iq_sh l, (iq_upI I 3 1 ((I 3 1) + (1 : Int32))), J, X))) (fun _ => rfl) ?_
  obtain ⟨I1, eI1, h⟩ := ir_letG h
  rw [← eI1]
  clear eI1
  refine iq_G_go (k := 1) (σ' := (11, [some (.ref 1)], [.int (-1 : Int32)], (iq_sh l, I1, J, X))) (fun _ => rfl) ?_
  cases h
  exact iq_G_ret (fun _ => rfl)
set_option maxRecDepth 100000 in
theorem zO_take_22_ok (l : Nat)   (I : iq_I) (J : iq_J) (X : iq_X)  {q : (Int32 ⊕ Nat) × iq_I × iq_X} (h : zO_take_22 I X = some q)  : iq_Gg 2 160 (22, [some (.ref 1), none, none, none], [], (iq_sh l, I, J, X)) ((ir_Ri q.1), (iq_sh l, q.2.1, J, q.2.2)) := by
  unfold zO_take_22 at h
  refine iq_G_go (k := 1) (σ' := (23, [some (.ref 1), none, none, none], [.ref 1], (iq_sh l, I, J, X))) (fun _ => rfl) ?_
  obtain ⟨q4, hq4, h⟩ := iq_bnd h
  refine iq_G_call (σ' := (26, [some (.ref 1), none, none, none], [.int q4.1], (iq_sh l, q4.2, J, X))) (fun _ => rfl) (zO_refuseAct_ok l  I J X hq4) rfl rfl ?_
  cases h
  exact iq_G_ret (fun _ => rfl)
set_option maxRecDepth 100000 in
theorem zO_take_ok (l : Nat)  (x1 : Int32) (x2 : Int32) (I : iq_I) (J : iq_J) (X : iq_X) {q : (Int32 ⊕ Nat) × iq_I × iq_X} (h : zO_take x1 x2 I X = some q) : iq_Cc 3 160 [.ref 1, .int x1, .int x2] (iq_sh l, I, J, X) ((ir_Ri q.1), (iq_sh l, q.2.1, J, q.2.2)) := by
  refine iq_Cc_of (L := [some (.ref 1), some (.int x1), some (.int x2), none]) rfl rfl ?_
  unfold zO_take at h
  refine iq_G_go (k := 2) (σ' := (2, [some (.ref 1), some (.int x1), some (.int x2), none], [.int x1, .ref 1], (iq_sh l, I, J, X))) (fun _ => rfl) ?_
  obtain ⟨q1, hq1, h⟩ := iq_bnd h
  have hC := (zO_needSaying_ok l x1 I J X hq1)
  rcases iq_smc h with ⟨a2, ha, h⟩ | ⟨k3, ha, h⟩
  · rw [ha] at hC
    refine iq_G_call (σ' := (5, [some (.ref 1), some (.int x1), some (.int x2), none], [], (iq_sh l, I, J, q1.2))) (fun _ => rfl) hC rfl rfl ?_
    refine iq_G_go (k := 1) (σ' := (6, [some (.ref 1), some (.int x1), some (.int x2), none], [.int x2], (iq_sh l, I, J, q1.2))) (fun _ => rfl) ?_
    rcases iq_ite h with ⟨hc_, h⟩ | ⟨hc_, h⟩
    · refine iq_G_pos (c := x2 < 0) (σ1 := (22, [some (.ref 1), some (.int x1), some (.int x2), none], [], (iq_sh l, I, J, q1.2))) (fun _ => rfl) hc_ ?_
      exact iq_G_fg (L := [some (.ref 1), none, none, none]) (And.intro rfl trivial) (zO_take_22_ok l I J q1.2  h )
    · refine iq_G_neg (c := x2 < 0) (σ1 := (9, [some (.ref 1), some (.int x1), some (.int x2), none], [], (iq_sh l, I, J, q1.2))) (fun _ => rfl) hc_ ?_
      refine iq_G_go (k := 5) (σ' := (18, [some (.ref 1), some (.int x1), some (.int x2), none], [.int x1, .ref 18, .int x2], (iq_sh l, I, J, q1.2))) (fun _ => rfl) ?_
      obtain ⟨hc_, h⟩ := iq_itn h
      refine iq_G_pos (c := iq_in x1 5) (σ1 := (19, [some (.ref 1), some (.int x1), some (.int x2), none], [.int (I 18 (Int32.toNatClampNeg x1)), .int x2], (iq_sh l, I, J, q1.2))) (fun _ => rfl) hc_ ?_
      rcases iq_ite h with ⟨hc_, h⟩ | ⟨hc_, h⟩
      · refine iq_G_pos (c := x2 < (I 18 (Int32.toNatClampNeg x1))) (σ1 := (27, [some (.ref 1), some (.int x1), some (.int x2), none], [], (iq_sh l, I, J, q1.2))) (fun _ => rfl) hc_ ?_
        refine iq_G_go (k := 4) (σ' := (33, [some (.ref 1), some (.int x1), some (.int x2), none], [.int x2, .int x1, .ref 16], (iq_sh l, I, J, q1.2))) (fun _ => rfl) ?_
        obtain ⟨q5, hq5, h⟩ := iq_bnd h
        refine iq_G_call (σ' := (36, [some (.ref 1), some (.int x1), some (.int x2), none], [.int q5.1], (iq_sh l, q5.2, J, q1.2))) (fun _ => rfl) (zG_takeOut_ok l x1 x2 I J q1.2 hq5) rfl rfl ?_
        refine iq_G_go (k := 8) (σ' := (48, [some (.ref 1), some (.int x1), some (.int x2), some (.int q5.1)], [.int q5.1, .int x2, .int x1, .int (1 : Int32), .ref 19], (iq_sh l, q5.2, J, q1.2))) (fun _ => rfl) ?_
        obtain ⟨q6, hq6, h⟩ := iq_bnd h
        refine iq_G_call (σ' := (51, [some (.ref 1), some (.int x1), some (.int x2), some (.int q5.1)], [], (iq_sh l, q6, J, q1.2))) (fun _ => rfl) (zA_keep_ok l (1 : Int32) x1 x2 q5.1 q5.2 J q1.2 hq6) rfl rfl ?_
        refine iq_G_go (k := 1) (σ' := (52, [some (.ref 1), some (.int x1), some (.int x2), some (.int q5.1)], [.int q5.1], (iq_sh l, q6, J, q1.2))) (fun _ => rfl) ?_
        cases h
        exact iq_G_ret (fun _ => rfl)
      · refine iq_G_neg (c := x2 < (I 18 (Int32.toNatClampNeg x1))) (σ1 := (22, [some (.ref 1), some (.int x1), some (.int x2), none], [], (iq_sh l, I, J, q1.2))) (fun _ => rfl) hc_ ?_
        exact iq_G_fg (L := [some (.ref 1), none, none, none]) (And.intro rfl trivial) (zO_take_22_ok l I J q1.2  h )
  · rw [ha] at hC
    cases h
    exact iq_G_callx (fun _ => rfl) hC rfl rfl
set_option maxRecDepth 100000 in
theorem zL_take_ok (l : Nat)  (x1 : Int32) (x2 : Int32) (I : iq_I) (J : iq_J) (X : iq_X) {q : Int32 × iq_I × iq_J × iq_X} (h : zL_take x1 x2 I J X = some q) : iq_Cc 4 334 [.ref 1, .int x1, .int x2, .ref 114] (iq_sh l, I, J, X) (.inl (some (.int q.1)), (iq_sh l, q.2.1, q.2.2.1, q.2.2.2)) := by
  refine iq_Cc_of (L := [some (.ref 1), some (.int x1), some (.int x2), some (.ref 114), none]) rfl rfl ?_
  unfold zL_take at h
  refine iq_G_go (k := 5) (σ' := (5, [some (.ref 1), some (.int x1), some (.int x2), some (.ref 114), none], [.int x2, .int x1, .ref 1, .int (0 : Int32), .ref 114], (iq_sh l, I, J, X))) (fun _ => rfl) ?_
  obtain ⟨q1, hq1, h⟩ := iq_bnd h
  have hC := (zO_take_ok l x1 x2 I J X hq1)
  rcases iq_smc h with ⟨a2, ha, h⟩ | ⟨k3, ha, h⟩
  · rw [ha] at hC
    refine iq_G_call (σ' := (8, [some (.ref 1), some (.int x1), some (.int x2), some (.ref 114), none], [.int a2, .int (0 : Int32), .ref 114], (iq_sh l, q1.2.1, J, q1.2.2))) (fun _ => rfl) hC rfl rfl ?_
    refine iq_G_go (k := 1) (σ' := (9, [some (.ref 1), some (.int x1), some (.int x2), some (.ref 114), none], [.long (Int32.toInt64 a2), .int (0 : Int32), .ref 114], (iq_sh l, q1.2.1, J, q1.2.2))) (fun _ => rfl) ?_
    refine iq_G_go (k := 1) (σ' := (10, [some (.ref 1), some (.int x1), some (.int x2), some (.ref 114), none], [], (iq_sh l, q1.2.1, (iq_upJ J 114 0 (Int32.toInt64 a2)), q1.2.2))) (fun _ => rfl) ?_
    obtain ⟨J4, eJ4, h⟩ := ir_letG h
    rw [← eJ4]
    clear eJ4
    refine iq_G_go (k := 2) (σ' := (18, [some (.ref 1), some (.int x1), some (.int x2), some (.ref 114), none], [.int (0 : Int32)], (iq_sh l, q1.2.1, J4, q1.2.2))) (fun _ => rfl) ?_
    cases h
    exact iq_G_ret (fun _ => rfl)
  · rw [ha] at hC
    rcases iq_ite h with ⟨e, h⟩ | ⟨_, h⟩
    · subst e
      refine iq_G_call (σ' := (15, [some (.ref 1), some (.int x1), some (.int x2), some (.ref 114), none], [], (iq_sh l, q1.2.1, J, q1.2.2))) (fun _ => rfl) hC rfl rfl ?_
      refine iq_G_go (k := 1) (σ' := (16, [some (.ref 1), some (.int x1), some (.int x2), some (.ref 114), none], [.int (1 : Int32)], (iq_sh l, q1.2.1, J, q1.2.2))) (fun _ => rfl) ?_
      cases h
      exact iq_G_ret (fun _ => rfl)
    · obtain ⟨e, h⟩ := iq_itn h
      cases h
set_option maxRecDepth 100000 in
theorem zM_take_29_ok (l : Nat)   (I : iq_I) (J : iq_J) (X : iq_X)  {q : Int32 × iq_I} (h : zM_take_29 I = some q)  : iq_Gg 2 268 (29, [some (.ref 76), none, none, none, none], [], (iq_sh l, I, J, X)) (.inl (some (.int q.1)), (iq_sh l, q.2, J, X)) := by
  unfold zM_take_29 at h
  refine iq_G_go (k := 2) (σ' := (31, [some (.ref 76), none, none, none, none], [.int (1 : Int32), .ref 76], (iq_sh l, I, J, X))) (fun _ => rfl) ?_
  obtain ⟨q3, hq3, h⟩ := iq_bnd h
  refine iq_G_call (σ' := (34, [some (.ref 76), none, none, none, none], [.int q3.1], (iq_sh l, q3.2, J, X))) (fun _ => rfl) (zM_refuses_ok l (1 : Int32) I J X hq3) rfl rfl ?_
  cases h
  exact iq_G_ret (fun _ => rfl)
set_option maxRecDepth 100000 in
theorem zM_take_l63_bok (l : Nat)  (x1 : Int32) (x3 : Int32) (J : iq_J) (X : iq_X) (x4 : Int32) (I : iq_I) {q : (Int32 × iq_I) ⊕ (iq_I)} (h : zM_take_l63_b x1 x3 x4 I = some q) (r : iq_R × iq_M) (hc : ∀ v, q = .inl v → iq_Gg 2 268 (63, [some (.ref 76), some (.int x1), none, some (.int x3), some (.int v.1)], [], (iq_sh l, v.2, J, X)) r) (hx : ∀ w, q = .inr w → iq_Gg 2 268 (112, [none, none, none, some (.int x3), none], [], (iq_sh l, w, J, X)) r) : iq_Gg 2 268 (63, [some (.ref 76), some (.int x1), none, some (.int x3), some (.int x4)], [], (iq_sh l, I, J, X)) r := by
  unfold zM_take_l63_b at h
  refine iq_G_go (k := 4) (σ' := (70, [some (.ref 76), some (.int x1), none, some (.int x3), some (.int x4)], [.int x1, .ref 98, .int x4], (iq_sh l, I, J, X))) (fun _ => rfl) ?_
  obtain ⟨hc_, h⟩ := iq_itn h
  refine iq_G_pos (c := iq_in x1 206) (σ1 := (71, [some (.ref 76), some (.int x1), none, some (.int x3), some (.int x4)], [.int (I 98 (Int32.toNatClampNeg x1)), .int x4], (iq_sh l, I, J, X))) (fun _ => rfl) hc_ ?_
  rcases iq_ite h with ⟨hc_, h⟩ | ⟨hc_, h⟩
  · refine iq_G_pos (c := (I 98 (Int32.toNatClampNeg x1)) ≤ x4) (σ1 := (112, [some (.ref 76), some (.int x1), none, some (.int x3), some (.int x4)], [], (iq_sh l, I, J, X))) (fun _ => rfl) hc_ ?_
    cases h
    exact iq_G_fg (L := [none, none, none, some (.int x3), none]) (And.intro rfl trivial) (hx I rfl)
  · refine iq_G_neg (c := (I 98 (Int32.toNatClampNeg x1)) ≤ x4) (σ1 := (74, [some (.ref 76), some (.int x1), none, some (.int x3), some (.int x4)], [], (iq_sh l, I, J, X))) (fun _ => rfl) hc_ ?_
    refine iq_G_go (k := 20) (σ' := (104, [some (.ref 76), some (.int x1), none, some (.int x3), some (.int x4)], [.int ((((6 : Int32) + ((40 : Int32) * x1)) + x4) + (1 : Int32)), .ref 98, .int (((6 : Int32) + ((40 : Int32) * x1)) + x4), .ref 98], (iq_sh l, I, J, X))) (fun _ => rfl) ?_
    obtain ⟨hc_, h⟩ := iq_itn h
    refine iq_G_pos (c := iq_in ((((6 : Int32) + ((40 : Int32) * x1)) + x4) + (1 : Int32)) 206) (σ1 := (105, [some (.ref 76), some (.int x1), none, some (.int x3), some (.int x4)], [.int (I 98 (Int32.toNatClampNeg ((((6 : Int32) + ((40 : Int32) * x1)) + x4) + (1 : Int32)))), .int (((6 : Int32) + ((40 : Int32) * x1)) + x4), .ref 98], (iq_sh l, I, J, X))) (fun _ => rfl) hc_ ?_
    obtain ⟨hc_, h⟩ := iq_itn h
    refine iq_G_pos (c := iq_in (((6 : Int32) + ((40 : Int32) * x1)) + x4) 206) (σ1 := (106, [some (.ref 76), some (.int x1), none, some (.int x3), some (.int x4)], [], (iq_sh l, (iq_upI I 98 (Int32.toNatClampNeg (((6 : Int32) + ((40 : Int32) * x1)) + x4)) (I 98 (Int32.toNatClampNeg ((((6 : Int32) + ((40 : Int32) * x1)) + x4) + (1 : Int32))))), J, X))) (fun _ => rfl) hc_ ?_
    obtain ⟨I7, eI7, h⟩ := ir_letG h
    rw [← eI7]
    clear eI7
    refine iq_G_go (k := 2) (σ' := (63, [some (.ref 76), some (.int x1), none, some (.int x3), some (.int (x4 + (1 : Int32)))], [], (iq_sh l, I7, J, X))) (fun _ => rfl) ?_
    cases h
    exact iq_G_fg (L := [some (.ref 76), some (.int x1), none, some (.int x3), some (.int (x4 + (1 : Int32)))]) (And.intro rfl (And.intro rfl (And.intro rfl (And.intro rfl trivial)))) (hc ((x4 + (1 : Int32)), I7) rfl)
set_option maxRecDepth 100000 in
theorem zM_take_l63_ok (l : Nat)  (x1 : Int32) (x3 : Int32) (J : iq_J) (X : iq_X) {n : Nat} {v : Int32 × iq_I} {w : iq_I} (h : zM_take_l63 x1 x3 n v = some w) (r : iq_R × iq_M) (hq : iq_Gg 2 268 (112, [none, none, none, some (.int x3), none], [], (iq_sh l, w, J, X)) r) : iq_Gg 2 268 (63, [some (.ref 76), some (.int x1), none, some (.int x3), some (.int v.1)], [], (iq_sh l, v.2, J, X)) r :=
  iq_lp_ok (σ := fun v => (63, [some (.ref 76), some (.int x1), none, some (.int x3), some (.int v.1)], [], (iq_sh l, v.2, J, X))) (Q := fun w r => iq_Gg 2 268 (112, [none, none, none, some (.int x3), none], [], (iq_sh l, w, J, X)) r) (fun v q hv r h1 h2 => zM_take_l63_bok l x1 x3 J X v.1 v.2 hv r h1 h2) h r hq
set_option maxRecDepth 100000 in
theorem zM_take_ok (l : Nat)  (x1 : Int32) (x2 : Int32) (I : iq_I) (J : iq_J) (X : iq_X) {q : Int32 × iq_I} (h : zM_take x1 x2 I = some q) : iq_Cc 3 268 [.ref 76, .int x1, .int x2] (iq_sh l, I, J, X) (.inl (some (.int q.1)), (iq_sh l, q.2, J, X)) := by
  refine iq_Cc_of (L := [some (.ref 76), some (.int x1), some (.int x2), none, none]) rfl rfl ?_
  unfold zM_take at h
  refine iq_G_go (k := 2) (σ' := (2, [some (.ref 76), some (.int x1), some (.int x2), none, none], [.int (0 : Int32), .ref 76], (iq_sh l, I, J, X))) (fun _ => rfl) ?_
  refine iq_G_go (k := 1) (σ' := (5, [some (.ref 76), some (.int x1), some (.int x2), none, none], [], (iq_sh l, (iq_upI I 76 0 (0 : Int32)), J, X))) (fun _ => rfl) ?_
  obtain ⟨I1, eI1, h⟩ := ir_letG h
  rw [← eI1]
  clear eI1
  refine iq_G_go (k := 2) (σ' := (7, [some (.ref 76), some (.int x1), some (.int x2), none, none], [.int x1, .ref 76], (iq_sh l, I1, J, X))) (fun _ => rfl) ?_
  obtain ⟨q2, hq2, h⟩ := iq_bnd h
  refine iq_G_call (σ' := (10, [some (.ref 76), some (.int x1), some (.int x2), none, none], [.int q2.1], (iq_sh l, q2.2, J, X))) (fun _ => rfl) (zM_isSaying_ok l x1 I1 J X hq2) rfl rfl ?_
  rcases iq_ite h with ⟨hc_, h⟩ | ⟨hc_, h⟩
  · refine iq_G_pos (c := ¬ q2.1 = 0) (σ1 := (15, [some (.ref 76), some (.int x1), some (.int x2), none, none], [], (iq_sh l, q2.2, J, X))) (fun _ => rfl) hc_ ?_
    refine iq_G_go (k := 1) (σ' := (16, [some (.ref 76), some (.int x1), some (.int x2), none, none], [.int x2], (iq_sh l, q2.2, J, X))) (fun _ => rfl) ?_
    rcases iq_ite h with ⟨hc_, h⟩ | ⟨hc_, h⟩
    · refine iq_G_pos (c := x2 < 0) (σ1 := (29, [some (.ref 76), some (.int x1), some (.int x2), none, none], [], (iq_sh l, q2.2, J, X))) (fun _ => rfl) hc_ ?_
      exact iq_G_fg (L := [some (.ref 76), none, none, none, none]) (And.intro rfl trivial) (zM_take_29_ok l q2.2 J X  h )
    · refine iq_G_neg (c := x2 < 0) (σ1 := (19, [some (.ref 76), some (.int x1), some (.int x2), none, none], [], (iq_sh l, q2.2, J, X))) (fun _ => rfl) hc_ ?_
      refine iq_G_go (k := 4) (σ' := (25, [some (.ref 76), some (.int x1), some (.int x2), none, none], [.int x1, .ref 98, .int x2], (iq_sh l, q2.2, J, X))) (fun _ => rfl) ?_
      obtain ⟨hc_, h⟩ := iq_itn h
      refine iq_G_pos (c := iq_in x1 206) (σ1 := (26, [some (.ref 76), some (.int x1), some (.int x2), none, none], [.int (q2.2 98 (Int32.toNatClampNeg x1)), .int x2], (iq_sh l, q2.2, J, X))) (fun _ => rfl) hc_ ?_
      rcases iq_ite h with ⟨hc_, h⟩ | ⟨hc_, h⟩
      · refine iq_G_pos (c := x2 < (q2.2 98 (Int32.toNatClampNeg x1))) (σ1 := (35, [some (.ref 76), some (.int x1), some (.int x2), none, none], [], (iq_sh l, q2.2, J, X))) (fun _ => rfl) hc_ ?_
        refine iq_G_go (k := 1) (σ' := (36, [some (.ref 76), some (.int x1), some (.int x2), none, none], [.ref 76], (iq_sh l, q2.2, J, X))) (fun _ => rfl) ?_
        obtain ⟨q4, hq4, h⟩ := iq_bnd h
        refine iq_G_call (σ' := (39, [some (.ref 76), some (.int x1), some (.int x2), none, none], [], (iq_sh l, q4, J, X))) (fun _ => rfl) (zM_keeps_ok l  q2.2 J X hq4) rfl rfl ?_
        refine iq_G_go (k := 5) (σ' := (46, [some (.ref 76), some (.int x1), some (.int x2), none, none], [.int x2, .int x1, .ref 98, .ref 76], (iq_sh l, q4, J, X))) (fun _ => rfl) ?_
        obtain ⟨q5, hq5, h⟩ := iq_bnd h
        refine iq_G_call (σ' := (49, [some (.ref 76), some (.int x1), some (.int x2), none, none], [.int q5], (iq_sh l, q4, J, X))) (fun _ => rfl) (zM_wordAt_76_98_ok l x1 x2 q4 J X hq5) rfl rfl ?_
        refine iq_G_go (k := 5) (σ' := (56, [some (.ref 76), some (.int x1), some (.int x2), some (.int q5), none], [.int x1, .ref 98, .int x1, .ref 98], (iq_sh l, q4, J, X))) (fun _ => rfl) ?_
        obtain ⟨hc_, h⟩ := iq_itn h
        refine iq_G_pos (c := iq_in x1 206) (σ1 := (57, [some (.ref 76), some (.int x1), some (.int x2), some (.int q5), none], [.int (q4 98 (Int32.toNatClampNeg x1)), .int x1, .ref 98], (iq_sh l, q4, J, X))) (fun _ => rfl) hc_ ?_
        refine iq_G_go (k := 2) (σ' := (59, [some (.ref 76), some (.int x1), some (.int x2), some (.int q5), none], [.int ((q4 98 (Int32.toNatClampNeg x1)) - (1 : Int32)), .int x1, .ref 98], (iq_sh l, q4, J, X))) (fun _ => rfl) ?_
        obtain ⟨hc_, h⟩ := iq_itn h
        refine iq_G_pos (c := iq_in x1 206) (σ1 := (60, [some (.ref 76), some (.int x1), some (.int x2), some (.int q5), none], [], (iq_sh l, (iq_upI q4 98 (Int32.toNatClampNeg x1) ((q4 98 (Int32.toNatClampNeg x1)) - (1 : Int32))), J, X))) (fun _ => rfl) hc_ ?_
        obtain ⟨I6, eI6, h⟩ := ir_letG h
        rw [← eI6]
        clear eI6
        refine iq_G_go (k := 2) (σ' := (63, [some (.ref 76), some (.int x1), some (.int x2), some (.int q5), some (.int x2)], [], (iq_sh l, I6, J, X))) (fun _ => rfl) ?_
        obtain ⟨w8, hw8, h⟩ := iq_bnd h
        refine iq_G_fg (L := [some (.ref 76), some (.int x1), none, some (.int q5), some (.int x2)]) (And.intro rfl (And.intro rfl (And.intro rfl (And.intro rfl trivial)))) ?_
        refine zM_take_l63_ok l x1 q5 J X hw8 _ ?_
        show iq_Gg 2 268 (112, [none, none, none, some (.int q5), none], [], (iq_sh l, w8, J, X)) _
        refine iq_G_go (k := 1) (σ' := (113, [none, none, none, some (.int q5), none], [.int q5], (iq_sh l, w8, J, X))) (fun _ => rfl) ?_
        cases h
        exact iq_G_ret (fun _ => rfl)
      · refine iq_G_neg (c := x2 < (q2.2 98 (Int32.toNatClampNeg x1))) (σ1 := (29, [some (.ref 76), some (.int x1), some (.int x2), none, none], [], (iq_sh l, q2.2, J, X))) (fun _ => rfl) hc_ ?_
        exact iq_G_fg (L := [some (.ref 76), none, none, none, none]) (And.intro rfl trivial) (zM_take_29_ok l q2.2 J X  h )
  · refine iq_G_neg (c := ¬ q2.1 = 0) (σ1 := (13, [some (.ref 76), some (.int x1), some (.int x2), none, none], [], (iq_sh l, q2.2, J, X))) (fun _ => rfl) hc_ ?_
    refine iq_G_go (k := 1) (σ' := (14, [some (.ref 76), some (.int x1), some (.int x2), none, none], [.int (0 : Int32)], (iq_sh l, q2.2, J, X))) (fun _ => rfl) ?_
    cases h
    exact iq_G_ret (fun _ => rfl)
set_option maxRecDepth 100000 in
theorem zO_fly_41_ok (l : Nat)   (I : iq_I) (J : iq_J) (X : iq_X)  {q : (Int32 ⊕ Nat) × iq_I × iq_X} (h : zO_fly_41 I X = some q)  : iq_Gg 2 159 (41, [some (.ref 1), none, none, none], [], (iq_sh l, I, J, X)) ((ir_Ri q.1), (iq_sh l, q.2.1, J, q.2.2)) := by
  unfold zO_fly_41 at h
  refine iq_G_go (k := 1) (σ' := (42, [some (.ref 1), none, none, none], [.ref 1], (iq_sh l, I, J, X))) (fun _ => rfl) ?_
  obtain ⟨q7, hq7, h⟩ := iq_bnd h
  refine iq_G_call (σ' := (45, [some (.ref 1), none, none, none], [.int q7.1], (iq_sh l, q7.2, J, X))) (fun _ => rfl) (zO_refuseAct_ok l  I J X hq7) rfl rfl ?_
  cases h
  exact iq_G_ret (fun _ => rfl)
set_option maxRecDepth 100000 in
theorem zO_fly_ok (l : Nat)  (x1 : Int32) (x2 : Int32) (x3 : Int32) (I : iq_I) (J : iq_J) (X : iq_X) {q : (Int32 ⊕ Nat) × iq_I × iq_X} (h : zO_fly x1 x2 x3 I X = some q) : iq_Cc 3 159 [.ref 1, .int x1, .int x2, .int x3] (iq_sh l, I, J, X) ((ir_Ri q.1), (iq_sh l, q.2.1, J, q.2.2)) := by
  refine iq_Cc_of (L := [some (.ref 1), some (.int x1), some (.int x2), some (.int x3)]) rfl rfl ?_
  unfold zO_fly at h
  refine iq_G_go (k := 2) (σ' := (2, [some (.ref 1), some (.int x1), some (.int x2), some (.int x3)], [.int x1, .ref 1], (iq_sh l, I, J, X))) (fun _ => rfl) ?_
  obtain ⟨q1, hq1, h⟩ := iq_bnd h
  have hC := (zO_needSaying_ok l x1 I J X hq1)
  rcases iq_smc h with ⟨a2, ha, h⟩ | ⟨k3, ha, h⟩
  · rw [ha] at hC
    refine iq_G_call (σ' := (5, [some (.ref 1), some (.int x1), some (.int x2), some (.int x3)], [], (iq_sh l, I, J, q1.2))) (fun _ => rfl) hC rfl rfl ?_
    refine iq_G_go (k := 2) (σ' := (7, [some (.ref 1), some (.int x1), some (.int x2), some (.int x3)], [.int x3, .ref 1], (iq_sh l, I, J, q1.2))) (fun _ => rfl) ?_
    obtain ⟨q4, hq4, h⟩ := iq_bnd h
    have hC := (zO_needWord_ok l x3 I J q1.2 hq4)
    rcases iq_smc h with ⟨a5, ha, h⟩ | ⟨k6, ha, h⟩
    · rw [ha] at hC
      refine iq_G_call (σ' := (10, [some (.ref 1), some (.int x1), some (.int x2), some (.int x3)], [], (iq_sh l, I, J, q4.2))) (fun _ => rfl) hC rfl rfl ?_
      refine iq_G_go (k := 4) (σ' := (18, [some (.ref 1), some (.int x1), some (.int x2), some (.int x3)], [.int x1, .ref 18], (iq_sh l, I, J, q4.2))) (fun _ => rfl) ?_
      obtain ⟨hc_, h⟩ := iq_itn h
      refine iq_G_pos (c := iq_in x1 5) (σ1 := (19, [some (.ref 1), some (.int x1), some (.int x2), some (.int x3)], [.int (I 18 (Int32.toNatClampNeg x1))], (iq_sh l, I, J, q4.2))) (fun _ => rfl) hc_ ?_
      refine iq_G_go (k := 1) (σ' := (21, [some (.ref 1), some (.int x1), some (.int x2), some (.int x3)], [.int (40 : Int32), .int (I 18 (Int32.toNatClampNeg x1))], (iq_sh l, I, J, q4.2))) (fun _ => rfl) ?_
      rcases iq_ite h with ⟨hc_, h⟩ | ⟨hc_, h⟩
      · refine iq_G_pos (c := (40 : Int32) ≤ (I 18 (Int32.toNatClampNeg x1))) (σ1 := (41, [some (.ref 1), some (.int x1), some (.int x2), some (.int x3)], [], (iq_sh l, I, J, q4.2))) (fun _ => rfl) hc_ ?_
        exact iq_G_fg (L := [some (.ref 1), none, none, none]) (And.intro rfl trivial) (zO_fly_41_ok l I J q4.2  h )
      · refine iq_G_neg (c := (40 : Int32) ≤ (I 18 (Int32.toNatClampNeg x1))) (σ1 := (24, [some (.ref 1), some (.int x1), some (.int x2), some (.int x3)], [], (iq_sh l, I, J, q4.2))) (fun _ => rfl) hc_ ?_
        refine iq_G_go (k := 1) (σ' := (25, [some (.ref 1), some (.int x1), some (.int x2), some (.int x3)], [.int x2], (iq_sh l, I, J, q4.2))) (fun _ => rfl) ?_
        rcases iq_ite h with ⟨hc_, h⟩ | ⟨hc_, h⟩
        · refine iq_G_pos (c := x2 < 0) (σ1 := (41, [some (.ref 1), some (.int x1), some (.int x2), some (.int x3)], [], (iq_sh l, I, J, q4.2))) (fun _ => rfl) hc_ ?_
          exact iq_G_fg (L := [some (.ref 1), none, none, none]) (And.intro rfl trivial) (zO_fly_41_ok l I J q4.2  h )
        · refine iq_G_neg (c := x2 < 0) (σ1 := (28, [some (.ref 1), some (.int x1), some (.int x2), some (.int x3)], [], (iq_sh l, I, J, q4.2))) (fun _ => rfl) hc_ ?_
          refine iq_G_go (k := 5) (σ' := (37, [some (.ref 1), some (.int x1), some (.int x2), some (.int x3)], [.int x1, .ref 18, .int x2], (iq_sh l, I, J, q4.2))) (fun _ => rfl) ?_
          obtain ⟨hc_, h⟩ := iq_itn h
          refine iq_G_pos (c := iq_in x1 5) (σ1 := (38, [some (.ref 1), some (.int x1), some (.int x2), some (.int x3)], [.int (I 18 (Int32.toNatClampNeg x1)), .int x2], (iq_sh l, I, J, q4.2))) (fun _ => rfl) hc_ ?_
          rcases iq_ite h with ⟨hc_, h⟩ | ⟨hc_, h⟩
          · refine iq_G_pos (c := x2 ≤ (I 18 (Int32.toNatClampNeg x1))) (σ1 := (46, [some (.ref 1), some (.int x1), some (.int x2), some (.int x3)], [], (iq_sh l, I, J, q4.2))) (fun _ => rfl) hc_ ?_
            refine iq_G_go (k := 5) (σ' := (53, [some (.ref 1), some (.int x1), some (.int x2), some (.int x3)], [.int x3, .int x2, .int x1, .ref 16], (iq_sh l, I, J, q4.2))) (fun _ => rfl) ?_
            obtain ⟨q8, hq8, h⟩ := iq_bnd h
            refine iq_G_call (σ' := (56, [some (.ref 1), some (.int x1), some (.int x2), some (.int x3)], [], (iq_sh l, q8, J, q4.2))) (fun _ => rfl) (zG_putIn_16_ok l x1 x2 x3 I J q4.2 hq8) rfl rfl ?_
            refine iq_G_go (k := 7) (σ' := (67, [some (.ref 1), some (.int x1), some (.int x2), some (.int x3)], [.int x3, .int x2, .int x1, .int (0 : Int32), .ref 19], (iq_sh l, q8, J, q4.2))) (fun _ => rfl) ?_
            obtain ⟨q9, hq9, h⟩ := iq_bnd h
            refine iq_G_call (σ' := (70, [some (.ref 1), some (.int x1), some (.int x2), some (.int x3)], [], (iq_sh l, q9, J, q4.2))) (fun _ => rfl) (zA_keep_ok l (0 : Int32) x1 x2 x3 q8 J q4.2 hq9) rfl rfl ?_
            refine iq_G_go (k := 4) (σ' := (78, [some (.ref 1), some (.int x1), some (.int x2), some (.int x3)], [.int x1, .ref 18], (iq_sh l, q9, J, q4.2))) (fun _ => rfl) ?_
            obtain ⟨hc_, h⟩ := iq_itn h
            refine iq_G_pos (c := iq_in x1 5) (σ1 := (79, [some (.ref 1), some (.int x1), some (.int x2), some (.int x3)], [.int (q9 18 (Int32.toNatClampNeg x1))], (iq_sh l, q9, J, q4.2))) (fun _ => rfl) hc_ ?_
            cases h
            exact iq_G_ret (fun _ => rfl)
          · refine iq_G_neg (c := x2 ≤ (I 18 (Int32.toNatClampNeg x1))) (σ1 := (41, [some (.ref 1), some (.int x1), some (.int x2), some (.int x3)], [], (iq_sh l, I, J, q4.2))) (fun _ => rfl) hc_ ?_
            exact iq_G_fg (L := [some (.ref 1), none, none, none]) (And.intro rfl trivial) (zO_fly_41_ok l I J q4.2  h )
    · rw [ha] at hC
      cases h
      exact iq_G_callx (fun _ => rfl) hC rfl rfl
  · rw [ha] at hC
    cases h
    exact iq_G_callx (fun _ => rfl) hC rfl rfl
set_option maxRecDepth 100000 in
theorem zL_fly_ok (l : Nat)  (x1 : Int32) (x2 : Int32) (x3 : Int32) (I : iq_I) (J : iq_J) (X : iq_X) {q : Int32 × iq_I × iq_J × iq_X} (h : zL_fly x1 x2 x3 I J X = some q) : iq_Cc 4 333 [.ref 1, .int x1, .int x2, .int x3, .ref 114] (iq_sh l, I, J, X) (.inl (some (.int q.1)), (iq_sh l, q.2.1, q.2.2.1, q.2.2.2)) := by
  refine iq_Cc_of (L := [some (.ref 1), some (.int x1), some (.int x2), some (.int x3), some (.ref 114), none]) rfl rfl ?_
  unfold zL_fly at h
  refine iq_G_go (k := 6) (σ' := (7, [some (.ref 1), some (.int x1), some (.int x2), some (.int x3), some (.ref 114), none], [.int x3, .int x2, .int x1, .ref 1, .int (0 : Int32), .ref 114], (iq_sh l, I, J, X))) (fun _ => rfl) ?_
  obtain ⟨q1, hq1, h⟩ := iq_bnd h
  have hC := (zO_fly_ok l x1 x2 x3 I J X hq1)
  rcases iq_smc h with ⟨a2, ha, h⟩ | ⟨k3, ha, h⟩
  · rw [ha] at hC
    refine iq_G_call (σ' := (10, [some (.ref 1), some (.int x1), some (.int x2), some (.int x3), some (.ref 114), none], [.int a2, .int (0 : Int32), .ref 114], (iq_sh l, q1.2.1, J, q1.2.2))) (fun _ => rfl) hC rfl rfl ?_
    refine iq_G_go (k := 1) (σ' := (11, [some (.ref 1), some (.int x1), some (.int x2), some (.int x3), some (.ref 114), none], [.long (Int32.toInt64 a2), .int (0 : Int32), .ref 114], (iq_sh l, q1.2.1, J, q1.2.2))) (fun _ => rfl) ?_
    refine iq_G_go (k := 1) (σ' := (12, [some (.ref 1), some (.int x1), some (.int x2), some (.int x3), some (.ref 114), none], [], (iq_sh l, q1.2.1, (iq_upJ J 114 0 (Int32.toInt64 a2)), q1.2.2))) (fun _ => rfl) ?_
    obtain ⟨J4, eJ4, h⟩ := ir_letG h
    rw [← eJ4]
    clear eJ4
    refine iq_G_go (k := 2) (σ' := (20, [some (.ref 1), some (.int x1), some (.int x2), some (.int x3), some (.ref 114), none], [.int (0 : Int32)], (iq_sh l, q1.2.1, J4, q1.2.2))) (fun _ => rfl) ?_
    cases h
    exact iq_G_ret (fun _ => rfl)
  · rw [ha] at hC
    rcases iq_ite h with ⟨e, h⟩ | ⟨_, h⟩
    · subst e
      refine iq_G_call (σ' := (17, [some (.ref 1), some (.int x1), some (.int x2), some (.int x3), some (.ref 114), none], [], (iq_sh l, q1.2.1, J, q1.2.2))) (fun _ => rfl) hC rfl rfl ?_
      refine iq_G_go (k := 1) (σ' := (18, [some (.ref 1), some (.int x1), some (.int x2), some (.int x3), some (.ref 114), none], [.int (1 : Int32)], (iq_sh l, q1.2.1, J, q1.2.2))) (fun _ => rfl) ?_
      cases h
      exact iq_G_ret (fun _ => rfl)
    · obtain ⟨e, h⟩ := iq_itn h
      cases h
set_option maxRecDepth 100000 in
theorem zM_puts0_76_98_l5_bok (l : Nat)  (x2 : Int32) (x3 : Int32) (x4 : Int32) (J : iq_J) (X : iq_X) (x5 : Int32) (I : iq_I) {q : (Int32 × iq_I) ⊕ (iq_I)} (h : zM_puts0_76_98_l5_b x2 x3 x4 x5 I = some q) (r : iq_R × iq_M) (hc : ∀ v, q = .inl v → iq_Gg 0 265 (5, [none, some (.ref 98), some (.int x2), some (.int x3), some (.int x4), some (.int v.1)], [], (iq_sh l, v.2, J, X)) r) (hx : ∀ w, q = .inr w → iq_Gg 0 265 (43, [none, some (.ref 98), some (.int x2), some (.int x3), some (.int x4), none], [], (iq_sh l, w, J, X)) r) : iq_Gg 0 265 (5, [none, some (.ref 98), some (.int x2), some (.int x3), some (.int x4), some (.int x5)], [], (iq_sh l, I, J, X)) r := by
  unfold zM_puts0_76_98_l5_b at h
  refine iq_G_go (k := 2) (σ' := (8, [none, some (.ref 98), some (.int x2), some (.int x3), some (.int x4), some (.int x5)], [.int x3, .int x5], (iq_sh l, I, J, X))) (fun _ => rfl) ?_
  rcases iq_ite h with ⟨hc_, h⟩ | ⟨hc_, h⟩
  · refine iq_G_pos (c := x5 ≤ x3) (σ1 := (43, [none, some (.ref 98), some (.int x2), some (.int x3), some (.int x4), some (.int x5)], [], (iq_sh l, I, J, X))) (fun _ => rfl) hc_ ?_
    cases h
    exact iq_G_fg (L := [none, some (.ref 98), some (.int x2), some (.int x3), some (.int x4), none]) (And.intro rfl (And.intro rfl (And.intro rfl (And.intro rfl trivial)))) (hx I rfl)
  · refine iq_G_neg (c := x5 ≤ x3) (σ1 := (11, [none, some (.ref 98), some (.int x2), some (.int x3), some (.int x4), some (.int x5)], [], (iq_sh l, I, J, X))) (fun _ => rfl) hc_ ?_
    refine iq_G_go (k := 18) (σ' := (35, [none, some (.ref 98), some (.int x2), some (.int x3), some (.int x4), some (.int x5)], [.int ((((6 : Int32) + ((40 : Int32) * x2)) + x5) - (1 : Int32)), .ref 98, .int (((6 : Int32) + ((40 : Int32) * x2)) + x5), .ref 98], (iq_sh l, I, J, X))) (fun _ => rfl) ?_
    obtain ⟨hc_, h⟩ := iq_itn h
    have st_ : ∀ (z_0 : Int32) (r_ : iq_R × iq_M), iq_in z_0 206 → iq_Gg 0 265 (36, [none, some (.ref 98), some (.int x2), some (.int x3), some (.int x4), some (.int x5)], [.int (I 98 (Int32.toNatClampNeg z_0)), .int (((6 : Int32) + ((40 : Int32) * x2)) + x5), .ref 98], (iq_sh l, I, J, X)) r_ → iq_Gg 0 265 (35, [none, some (.ref 98), some (.int x2), some (.int x3), some (.int x4), some (.int x5)], [.int z_0, .ref 98, .int (((6 : Int32) + ((40 : Int32) * x2)) + x5), .ref 98], (iq_sh l, I, J, X)) r_ := fun z_0 r_ hc_ hg_ => iq_G_pos (c := iq_in z_0 206) (σ1 := (36, [none, some (.ref 98), some (.int x2), some (.int x3), some (.int x4), some (.int x5)], [.int (I 98 (Int32.toNatClampNeg z_0)), .int (((6 : Int32) + ((40 : Int32) * x2)) + x5), .ref 98], (iq_sh l, I, J, X))) (fun _ => rfl) hc_ hg_
    refine st_ ((((6 : Int32) + ((40 : Int32) * x2)) + x5) - (1 : Int32)) _ hc_ ?_
    clear st_
    obtain ⟨hc_, h⟩ := iq_itn h
    refine iq_G_pos (c := iq_in (((6 : Int32) + ((40 : Int32) * x2)) + x5) 206) (σ1 := (37, [none, some (.ref 98), some (.int x2), some (.int x3), some (.int x4), some (.int x5)], [], (iq_sh l, (iq_upI I 98 (Int32.toNatClampNeg (((6 : Int32) + ((40 : Int32) * x2)) + x5)) (I 98 (Int32.toNatClampNeg ((((6 : Int32) + ((40 : Int32) * x2)) + x5) - (1 : Int32))))), J, X))) (fun _ => rfl) hc_ ?_
    obtain ⟨I1, eI1, h⟩ := ir_letG h
    rw [← eI1]
    clear eI1
    refine iq_G_go (k := 2) (σ' := (5, [none, some (.ref 98), some (.int x2), some (.int x3), some (.int x4), some (.int (x5 + (-1 : Int32)))], [], (iq_sh l, I1, J, X))) (fun _ => rfl) ?_
    cases h
    exact iq_G_fg (L := [none, some (.ref 98), some (.int x2), some (.int x3), some (.int x4), some (.int (x5 + (-1 : Int32)))]) (And.intro rfl (And.intro rfl (And.intro rfl (And.intro rfl (And.intro rfl trivial))))) (hc ((x5 + (-1 : Int32)), I1) rfl)
set_option maxRecDepth 100000 in
theorem zM_puts0_76_98_l5_ok (l : Nat)  (x2 : Int32) (x3 : Int32) (x4 : Int32) (J : iq_J) (X : iq_X) {n : Nat} {v : Int32 × iq_I} {w : iq_I} (h : zM_puts0_76_98_l5 x2 x3 x4 n v = some w) (r : iq_R × iq_M) (hq : iq_Gg 0 265 (43, [none, some (.ref 98), some (.int x2), some (.int x3), some (.int x4), none], [], (iq_sh l, w, J, X)) r) : iq_Gg 0 265 (5, [none, some (.ref 98), some (.int x2), some (.int x3), some (.int x4), some (.int v.1)], [], (iq_sh l, v.2, J, X)) r :=
  iq_lp_ok (σ := fun v => (5, [none, some (.ref 98), some (.int x2), some (.int x3), some (.int x4), some (.int v.1)], [], (iq_sh l, v.2, J, X))) (Q := fun w r => iq_Gg 0 265 (43, [none, some (.ref 98), some (.int x2), some (.int x3), some (.int x4), none], [], (iq_sh l, w, J, X)) r) (fun v q hv r h1 h2 => zM_puts0_76_98_l5_bok l x2 x3 x4 J X v.1 v.2 hv r h1 h2) h r hq
set_option maxRecDepth 100000 in
theorem zM_puts0_76_98_ok (l : Nat)  (x2 : Int32) (x3 : Int32) (x4 : Int32) (I : iq_I) (J : iq_J) (X : iq_X) {q : iq_I} (h : zM_puts0_76_98 x2 x3 x4 I = some q) : iq_Cc 1 265 [.ref 76, .ref 98, .int x2, .int x3, .int x4] (iq_sh l, I, J, X) (.inl none, (iq_sh l, q, J, X)) := by
  refine iq_Cc_of (L := [some (.ref 76), some (.ref 98), some (.int x2), some (.int x3), some (.int x4), none]) rfl rfl ?_
  unfold zM_puts0_76_98 at h
  refine iq_G_go (k := 2) (σ' := (2, [some (.ref 76), some (.ref 98), some (.int x2), some (.int x3), some (.int x4), none], [.int x2, .ref 98], (iq_sh l, I, J, X))) (fun _ => rfl) ?_
  obtain ⟨hc_, h⟩ := iq_itn h
  refine iq_G_pos (c := iq_in x2 206) (σ1 := (3, [some (.ref 76), some (.ref 98), some (.int x2), some (.int x3), some (.int x4), none], [.int (I 98 (Int32.toNatClampNeg x2))], (iq_sh l, I, J, X))) (fun _ => rfl) hc_ ?_
  refine iq_G_go (k := 1) (σ' := (5, [some (.ref 76), some (.ref 98), some (.int x2), some (.int x3), some (.int x4), some (.int (I 98 (Int32.toNatClampNeg x2)))], [], (iq_sh l, I, J, X))) (fun _ => rfl) ?_
  obtain ⟨w2, hw2, h⟩ := iq_bnd h
  refine iq_G_fg (L := [none, some (.ref 98), some (.int x2), some (.int x3), some (.int x4), some (.int (I 98 (Int32.toNatClampNeg x2)))]) (And.intro rfl (And.intro rfl (And.intro rfl (And.intro rfl (And.intro rfl trivial))))) ?_
  refine zM_puts0_76_98_l5_ok l x2 x3 x4 J X hw2 _ ?_
  show iq_Gg 0 265 (43, [none, some (.ref 98), some (.int x2), some (.int x3), some (.int x4), none], [], (iq_sh l, w2, J, X)) _
  refine iq_G_go (k := 9) (σ' := (55, [none, some (.ref 98), some (.int x2), some (.int x3), some (.int x4), none], [.int x4, .int (((6 : Int32) + ((40 : Int32) * x2)) + x3), .ref 98], (iq_sh l, w2, J, X))) (fun _ => rfl) ?_
  obtain ⟨hc_, h⟩ := iq_itn h
  refine iq_G_pos (c := iq_in (((6 : Int32) + ((40 : Int32) * x2)) + x3) 206) (σ1 := (56, [none, some (.ref 98), some (.int x2), some (.int x3), some (.int x4), none], [], (iq_sh l, (iq_upI w2 98 (Int32.toNatClampNeg (((6 : Int32) + ((40 : Int32) * x2)) + x3)) x4), J, X))) (fun _ => rfl) hc_ ?_
  obtain ⟨I3, eI3, h⟩ := ir_letG h
  rw [← eI3]
  clear eI3
  refine iq_G_go (k := 3) (σ' := (59, [none, some (.ref 98), some (.int x2), some (.int x3), some (.int x4), none], [.int x2, .ref 98, .int x2, .ref 98], (iq_sh l, I3, J, X))) (fun _ => rfl) ?_
  obtain ⟨hc_, h⟩ := iq_itn h
  refine iq_G_pos (c := iq_in x2 206) (σ1 := (60, [none, some (.ref 98), some (.int x2), some (.int x3), some (.int x4), none], [.int (I3 98 (Int32.toNatClampNeg x2)), .int x2, .ref 98], (iq_sh l, I3, J, X))) (fun _ => rfl) hc_ ?_
  refine iq_G_go (k := 2) (σ' := (62, [none, some (.ref 98), some (.int x2), some (.int x3), some (.int x4), none], [.int ((I3 98 (Int32.toNatClampNeg x2)) + (1 : Int32)), .int x2, .ref 98], (iq_sh l, I3, J, X))) (fun _ => rfl) ?_
  obtain ⟨hc_, h⟩ := iq_itn h
  refine iq_G_pos (c := iq_in x2 206) (σ1 := (63, [none, some (.ref 98), some (.int x2), some (.int x3), some (.int x4), none], [], (iq_sh l, (iq_upI I3 98 (Int32.toNatClampNeg x2) ((I3 98 (Int32.toNatClampNeg x2)) + (1 : Int32))), J, X))) (fun _ => rfl) hc_ ?_
  obtain ⟨I4, eI4, h⟩ := ir_letG h
  rw [← eI4]
  clear eI4
  cases h
  exact iq_G_ret (fun _ => rfl)

