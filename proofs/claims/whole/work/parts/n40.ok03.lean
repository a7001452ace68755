/-! ===== the abstract machine does the same (printed by wip/whole/emitall.py, split.py) ===== -/
set_option maxRecDepth 100000 in
theorem zE_give_133_ok (l : Nat)  (x1 : Int32) (x3 : Int32) (x4 : Int32) (s1 : Int32) (s2 : Int32) (I : iq_I) (J : iq_J) (X : iq_X)  {q : (Int32 × Int32 × iq_I) ⊕ (Int32 × iq_I)} (h : zE_give_133 x1 x3 x4 s1 s2 I = some q) (r : iq_R × iq_M) (hc : ∀ v, q = .inl v → iq_Gg 1 134 (25, [some (.ref 8), some (.int x1), some (.ref 70), some (.int v.1), some (.int v.2.1), none], [], (iq_sh l, v.2.2, J, X)) r) (hx : ∀ w, q = .inr w → iq_Gg 1 134 (178, [some (.ref 8), none, none, some (.int w.1), none, none], [], (iq_sh l, w.2, J, X)) r) : iq_Gg 1 134 (133, [some (.ref 8), some (.int x1), some (.ref 70), some (.int x3), some (.int x4), none], [.int s2, .int s1, .ref 12], (iq_sh l, I, J, X)) r := by
  unfold zE_give_133 at h
  obtain ⟨hc_, h⟩ := iq_itn h
  refine iq_G_pos (c := iq_in s1 64) (σ1 := (134, [some (.ref 8), some (.int x1), some (.ref 70), some (.int x3), some (.int x4), none], [], (iq_sh l, (iq_upI I 12 (Int32.toNatClampNeg s1) s2), J, X))) (fun _ => rfl) hc_ ?_
  obtain ⟨I3, eI3, h⟩ := ir_letG h
  rw [← eI3]
  clear eI3
  refine iq_G_go (k := 3) (σ' := (25, [some (.ref 8), some (.int x1), some (.ref 70), some (.int x3), some (.int (x4 + (1 : Int32))), none], [], (iq_sh l, I3, J, X))) (fun _ => rfl) ?_
  cases h
  exact iq_G_fg (L := [some (.ref 8), some (.int x1), some (.ref 70), some (.int x3), some (.int (x4 + (1 : Int32))), none]) (And.intro rfl (And.intro rfl (And.intro rfl (And.intro rfl (And.intro rfl trivial))))) (hc (x3, (x4 + (1 : Int32)), I3) rfl)
set_option maxRecDepth 100000 in
theorem zE_give_92_ok (l : Nat)  (x1 : Int32) (x3 : Int32) (x4 : Int32) (s1 : Int32) (s2 : Int32) (I : iq_I) (J : iq_J) (X : iq_X)  {q : (Int32 × Int32 × iq_I) ⊕ (Int32 × iq_I)} (h : zE_give_92 x1 x3 x4 s1 s2 I = some q) (r : iq_R × iq_M) (hc : ∀ v, q = .inl v → iq_Gg 1 134 (25, [some (.ref 8), some (.int x1), some (.ref 70), some (.int v.1), some (.int v.2.1), none], [], (iq_sh l, v.2.2, J, X)) r) (hx : ∀ w, q = .inr w → iq_Gg 1 134 (178, [some (.ref 8), none, none, some (.int w.1), none, none], [], (iq_sh l, w.2, J, X)) r) : iq_Gg 1 134 (92, [some (.ref 8), some (.int x1), some (.ref 70), some (.int x3), some (.int x4), none], [.int s2, .int s1, .ref 12], (iq_sh l, I, J, X)) r := by
  unfold zE_give_92 at h
  obtain ⟨hc_, h⟩ := iq_itn h
  refine iq_G_pos (c := iq_in s1 64) (σ1 := (93, [some (.ref 8), some (.int x1), some (.ref 70), some (.int x3), some (.int x4), none], [], (iq_sh l, (iq_upI I 12 (Int32.toNatClampNeg s1) s2), J, X))) (fun _ => rfl) hc_ ?_
  obtain ⟨I5, eI5, h⟩ := ir_letG h
  rw [← eI5]
  clear eI5
  refine iq_G_go (k := 4) (σ' := (25, [some (.ref 8), some (.int x1), some (.ref 70), some (.int (x3 + (1 : Int32))), some (.int (x4 + (1 : Int32))), none], [], (iq_sh l, I5, J, X))) (fun _ => rfl) ?_
  cases h
  exact iq_G_fg (L := [some (.ref 8), some (.int x1), some (.ref 70), some (.int (x3 + (1 : Int32))), some (.int (x4 + (1 : Int32))), none]) (And.intro rfl (And.intro rfl (And.intro rfl (And.intro rfl (And.intro rfl trivial))))) (hc ((x3 + (1 : Int32)), (x4 + (1 : Int32)), I5) rfl)
set_option maxRecDepth 100000 in
theorem zE_give_l25_bok (l : Nat)  (x1 : Int32) (J : iq_J) (X : iq_X) (x3 : Int32) (x4 : Int32) (I : iq_I) {q : (Int32 × Int32 × iq_I) ⊕ (Int32 × iq_I)} (h : zE_give_l25_b x1 x3 x4 I = some q) (r : iq_R × iq_M) (hc : ∀ v, q = .inl v → iq_Gg 1 134 (25, [some (.ref 8), some (.int x1), some (.ref 70), some (.int v.1), some (.int v.2.1), none], [], (iq_sh l, v.2.2, J, X)) r) (hx : ∀ w, q = .inr w → iq_Gg 1 134 (178, [some (.ref 8), none, none, some (.int w.1), none, none], [], (iq_sh l, w.2, J, X)) r) : iq_Gg 1 134 (25, [some (.ref 8), some (.int x1), some (.ref 70), some (.int x3), some (.int x4), none], [], (iq_sh l, I, J, X)) r := by
  unfold zE_give_l25_b at h
  refine iq_G_go (k := 4) (σ' := (32, [some (.ref 8), some (.int x1), some (.ref 70), some (.int x3), some (.int x4), none], [.int x1, .ref 11, .int x4], (iq_sh l, I, J, X))) (fun _ => rfl) ?_
  obtain ⟨hc_, h⟩ := iq_itn h
  refine iq_G_pos (c := iq_in x1 5) (σ1 := (33, [some (.ref 8), some (.int x1), some (.ref 70), some (.int x3), some (.int x4), none], [.int (I 11 (Int32.toNatClampNeg x1)), .int x4], (iq_sh l, I, J, X))) (fun _ => rfl) hc_ ?_
  rcases iq_ite h with ⟨hc_, h⟩ | ⟨hc_, h⟩
  · refine iq_G_pos (c := (I 11 (Int32.toNatClampNeg x1)) ≤ x4) (σ1 := (178, [some (.ref 8), some (.int x1), some (.ref 70), some (.int x3), some (.int x4), none], [], (iq_sh l, I, J, X))) (fun _ => rfl) hc_ ?_
    cases h
    exact iq_G_fg (L := [some (.ref 8), none, none, some (.int x3), none, none]) (And.intro rfl (And.intro rfl trivial)) (hx (x3, I) rfl)
  · refine iq_G_neg (c := (I 11 (Int32.toNatClampNeg x1)) ≤ x4) (σ1 := (36, [some (.ref 8), some (.int x1), some (.ref 70), some (.int x3), some (.int x4), none], [], (iq_sh l, I, J, X))) (fun _ => rfl) hc_ ?_
    refine iq_G_go (k := 4) (σ' := (43, [some (.ref 8), some (.int x1), some (.ref 70), some (.int x3), some (.int x4), none], [.int (700 : Int32), .int x4], (iq_sh l, I, J, X))) (fun _ => rfl) ?_
    rcases iq_ite h with ⟨hc_, h⟩ | ⟨hc_, h⟩
    · refine iq_G_pos (c := (700 : Int32) ≤ x4) (σ1 := (178, [some (.ref 8), some (.int x1), some (.ref 70), some (.int x3), some (.int x4), none], [], (iq_sh l, I, J, X))) (fun _ => rfl) hc_ ?_
      cases h
      exact iq_G_fg (L := [some (.ref 8), none, none, some (.int x3), none, none]) (And.intro rfl (And.intro rfl trivial)) (hx (x3, I) rfl)
    · refine iq_G_neg (c := (700 : Int32) ≤ x4) (σ1 := (46, [some (.ref 8), some (.int x1), some (.ref 70), some (.int x3), some (.int x4), none], [], (iq_sh l, I, J, X))) (fun _ => rfl) hc_ ?_
      refine iq_G_go (k := 3) (σ' := (52, [some (.ref 8), some (.int x1), some (.ref 70), some (.int x3), some (.int x4), none], [.int x4, .ref 9], (iq_sh l, I, J, X))) (fun _ => rfl) ?_
      obtain ⟨hc_, h⟩ := iq_itn h
      refine iq_G_pos (c := iq_in x4 700) (σ1 := (53, [some (.ref 8), some (.int x1), some (.ref 70), some (.int x3), some (.int x4), none], [.int (I 9 (Int32.toNatClampNeg x4))], (iq_sh l, I, J, X))) (fun _ => rfl) hc_ ?_
      refine iq_G_go (k := 3) (σ' := (59, [some (.ref 8), some (.int x1), some (.ref 70), some (.int x3), some (.int x4), some (.int (I 9 (Int32.toNatClampNeg x4)))], [.int (-8 : Int32), .int (I 9 (Int32.toNatClampNeg x4))], (iq_sh l, I, J, X))) (fun _ => rfl) ?_
      rcases iq_ite h with ⟨hc_, h⟩ | ⟨hc_, h⟩
      · refine iq_G_pos (c := (I 9 (Int32.toNatClampNeg x4)) ≤ (-8 : Int32)) (σ1 := (99, [some (.ref 8), some (.int x1), some (.ref 70), some (.int x3), some (.int x4), some (.int (I 9 (Int32.toNatClampNeg x4)))], [], (iq_sh l, I, J, X))) (fun _ => rfl) hc_ ?_
        refine iq_G_go (k := 2) (σ' := (103, [some (.ref 8), some (.int x1), some (.ref 70), some (.int x3), some (.int x4), some (.int (I 9 (Int32.toNatClampNeg x4)))], [.int (-8 : Int32), .int (I 9 (Int32.toNatClampNeg x4))], (iq_sh l, I, J, X))) (fun _ => rfl) ?_
        rcases iq_ite h with ⟨hc_, h⟩ | ⟨hc_, h⟩
        · refine iq_G_pos (c := ¬ (I 9 (Int32.toNatClampNeg x4)) = (-8 : Int32)) (σ1 := (137, [some (.ref 8), some (.int x1), some (.ref 70), some (.int x3), some (.int x4), some (.int (I 9 (Int32.toNatClampNeg x4)))], [], (iq_sh l, I, J, X))) (fun _ => rfl) hc_ ?_
          refine iq_G_go (k := 2) (σ' := (139, [some (.ref 8), some (.int x1), some (.ref 70), some (.int x3), some (.int x4), some (.int (I 9 (Int32.toNatClampNeg x4)))], [.int (1 : Int32), .int x3], (iq_sh l, I, J, X))) (fun _ => rfl) ?_
          rcases iq_ite h with ⟨hc_, h⟩ | ⟨hc_, h⟩
          · refine iq_G_pos (c := x3 ≤ (1 : Int32)) (σ1 := (172, [some (.ref 8), some (.int x1), some (.ref 70), some (.int x3), some (.int x4), some (.int (I 9 (Int32.toNatClampNeg x4)))], [], (iq_sh l, I, J, X))) (fun _ => rfl) hc_ ?_
            refine iq_G_go (k := 2) (σ' := (25, [some (.ref 8), some (.int x1), some (.ref 70), some (.int x3), some (.int (x4 + (1 : Int32))), some (.int (I 9 (Int32.toNatClampNeg x4)))], [], (iq_sh l, I, J, X))) (fun _ => rfl) ?_
            cases h
            exact iq_G_fg (L := [some (.ref 8), some (.int x1), some (.ref 70), some (.int x3), some (.int (x4 + (1 : Int32))), none]) (And.intro rfl (And.intro rfl (And.intro rfl (And.intro rfl (And.intro rfl trivial))))) (hc (x3, (x4 + (1 : Int32)), I) rfl)
          · refine iq_G_neg (c := x3 ≤ (1 : Int32)) (σ1 := (142, [some (.ref 8), some (.int x1), some (.ref 70), some (.int x3), some (.int x4), some (.int (I 9 (Int32.toNatClampNeg x4)))], [], (iq_sh l, I, J, X))) (fun _ => rfl) hc_ ?_
            refine iq_G_go (k := 12) (σ' := (161, [some (.ref 8), some (.int x1), some (.ref 70), some (.int (x3 + (-1 : Int32))), some (.int x4), some (.int (I 9 (Int32.toNatClampNeg x4)))], [.int ((x3 + (-1 : Int32)) - (1 : Int32)), .ref 12, .int (I 9 (Int32.toNatClampNeg x4)), .int ((x3 + (-1 : Int32)) - (1 : Int32)), .ref 12], (iq_sh l, I, J, X))) (fun _ => rfl) ?_
            obtain ⟨hc_, h⟩ := iq_itn h
            have st_ : ∀ (z_0 : Int32) (r_ : iq_R × iq_M), iq_in z_0 64 → iq_Gg 1 134 (162, [some (.ref 8), some (.int x1), some (.ref 70), some (.int (x3 + (-1 : Int32))), some (.int x4), some (.int (I 9 (Int32.toNatClampNeg x4)))], [.int (I 12 (Int32.toNatClampNeg z_0)), .int (I 9 (Int32.toNatClampNeg x4)), .int z_0, .ref 12], (iq_sh l, I, J, X)) r_ → iq_Gg 1 134 (161, [some (.ref 8), some (.int x1), some (.ref 70), some (.int (x3 + (-1 : Int32))), some (.int x4), some (.int (I 9 (Int32.toNatClampNeg x4)))], [.int z_0, .ref 12, .int (I 9 (Int32.toNatClampNeg x4)), .int z_0, .ref 12], (iq_sh l, I, J, X)) r_ := fun z_0 r_ hc_ hg_ => iq_G_pos (c := iq_in z_0 64) (σ1 := (162, [some (.ref 8), some (.int x1), some (.ref 70), some (.int (x3 + (-1 : Int32))), some (.int x4), some (.int (I 9 (Int32.toNatClampNeg x4)))], [.int (I 12 (Int32.toNatClampNeg z_0)), .int (I 9 (Int32.toNatClampNeg x4)), .int z_0, .ref 12], (iq_sh l, I, J, X))) (fun _ => rfl) hc_ hg_
            refine st_ ((x3 + (-1 : Int32)) - (1 : Int32)) _ hc_ ?_
            clear st_
            refine iq_G_go (k := 3) (σ' := (167, [some (.ref 8), some (.int x1), some (.ref 70), some (.int (x3 + (-1 : Int32))), some (.int x4), some (.int (I 9 (Int32.toNatClampNeg x4)))], [.int (x3 + (-1 : Int32)), .ref 12, .int (I 12 (Int32.toNatClampNeg ((x3 + (-1 : Int32)) - (1 : Int32)))), .int (I 9 (Int32.toNatClampNeg x4)), .int ((x3 + (-1 : Int32)) - (1 : Int32)), .ref 12], (iq_sh l, I, J, X))) (fun _ => rfl) ?_
            obtain ⟨hc_, h⟩ := iq_itn h
            have st_ : ∀ (z_0 : Int32) (r_ : iq_R × iq_M), iq_in z_0 64 → iq_Gg 1 134 (168, [some (.ref 8), some (.int x1), some (.ref 70), some (.int z_0), some (.int x4), some (.int (I 9 (Int32.toNatClampNeg x4)))], [.int (I 12 (Int32.toNatClampNeg z_0)), .int (I 12 (Int32.toNatClampNeg (z_0 - (1 : Int32)))), .int (I 9 (Int32.toNatClampNeg x4)), .int (z_0 - (1 : Int32)), .ref 12], (iq_sh l, I, J, X)) r_ → iq_Gg 1 134 (167, [some (.ref 8), some (.int x1), some (.ref 70), some (.int z_0), some (.int x4), some (.int (I 9 (Int32.toNatClampNeg x4)))], [.int z_0, .ref 12, .int (I 12 (Int32.toNatClampNeg (z_0 - (1 : Int32)))), .int (I 9 (Int32.toNatClampNeg x4)), .int (z_0 - (1 : Int32)), .ref 12], (iq_sh l, I, J, X)) r_ := fun z_0 r_ hc_ hg_ => iq_G_pos (c := iq_in z_0 64) (σ1 := (168, [some (.ref 8), some (.int x1), some (.ref 70), some (.int z_0), some (.int x4), some (.int (I 9 (Int32.toNatClampNeg x4)))], [.int (I 12 (Int32.toNatClampNeg z_0)), .int (I 12 (Int32.toNatClampNeg (z_0 - (1 : Int32)))), .int (I 9 (Int32.toNatClampNeg x4)), .int (z_0 - (1 : Int32)), .ref 12], (iq_sh l, I, J, X))) (fun _ => rfl) hc_ hg_
            refine st_ (x3 + (-1 : Int32)) _ hc_ ?_
            clear st_
            obtain ⟨q1, hq1, h⟩ := iq_bnd h
            refine iq_G_call (σ' := (171, [some (.ref 8), some (.int x1), some (.ref 70), some (.int (x3 + (-1 : Int32))), some (.int x4), some (.int (I 9 (Int32.toNatClampNeg x4)))], [.int q1, .int ((x3 + (-1 : Int32)) - (1 : Int32)), .ref 12], (iq_sh l, I, J, X))) (fun _ => rfl) (zE_join_ok l (I 9 (Int32.toNatClampNeg x4)) (I 12 (Int32.toNatClampNeg ((x3 + (-1 : Int32)) - (1 : Int32)))) (I 12 (Int32.toNatClampNeg (x3 + (-1 : Int32)))) I J X hq1) rfl rfl ?_
            obtain ⟨hc_, h⟩ := iq_itn h
            have st_ : ∀ (z_0 : Int32) (r_ : iq_R × iq_M), iq_in z_0 64 → iq_Gg 1 134 (172, [some (.ref 8), some (.int x1), some (.ref 70), some (.int (x3 + (-1 : Int32))), some (.int x4), some (.int (I 9 (Int32.toNatClampNeg x4)))], [], (iq_sh l, (iq_upI I 12 (Int32.toNatClampNeg z_0) q1), J, X)) r_ → iq_Gg 1 134 (171, [some (.ref 8), some (.int x1), some (.ref 70), some (.int (x3 + (-1 : Int32))), some (.int x4), some (.int (I 9 (Int32.toNatClampNeg x4)))], [.int q1, .int z_0, .ref 12], (iq_sh l, I, J, X)) r_ := fun z_0 r_ hc_ hg_ => iq_G_pos (c := iq_in z_0 64) (σ1 := (172, [some (.ref 8), some (.int x1), some (.ref 70), some (.int (x3 + (-1 : Int32))), some (.int x4), some (.int (I 9 (Int32.toNatClampNeg x4)))], [], (iq_sh l, (iq_upI I 12 (Int32.toNatClampNeg z_0) q1), J, X))) (fun _ => rfl) hc_ hg_
            refine st_ ((x3 + (-1 : Int32)) - (1 : Int32)) _ hc_ ?_
            clear st_
            obtain ⟨I2, eI2, h⟩ := ir_letG h
            rw [← eI2]
            clear eI2
            refine iq_G_go (k := 2) (σ' := (25, [some (.ref 8), some (.int x1), some (.ref 70), some (.int (x3 + (-1 : Int32))), some (.int (x4 + (1 : Int32))), some (.int (I 9 (Int32.toNatClampNeg x4)))], [], (iq_sh l, I2, J, X))) (fun _ => rfl) ?_
            cases h
            exact iq_G_fg (L := [some (.ref 8), some (.int x1), some (.ref 70), some (.int (x3 + (-1 : Int32))), some (.int (x4 + (1 : Int32))), none]) (And.intro rfl (And.intro rfl (And.intro rfl (And.intro rfl (And.intro rfl trivial))))) (hc ((x3 + (-1 : Int32)), (x4 + (1 : Int32)), I2) rfl)
        · refine iq_G_neg (c := ¬ (I 9 (Int32.toNatClampNeg x4)) = (-8 : Int32)) (σ1 := (106, [some (.ref 8), some (.int x1), some (.ref 70), some (.int x3), some (.int x4), some (.int (I 9 (Int32.toNatClampNeg x4)))], [], (iq_sh l, I, J, X))) (fun _ => rfl) hc_ ?_
          refine iq_G_go (k := 1) (σ' := (107, [some (.ref 8), some (.int x1), some (.ref 70), some (.int x3), some (.int x4), some (.int (I 9 (Int32.toNatClampNeg x4)))], [.int x3], (iq_sh l, I, J, X))) (fun _ => rfl) ?_
          rcases iq_ite h with ⟨hc_, h⟩ | ⟨hc_, h⟩
          · refine iq_G_pos (c := x3 ≤ 0) (σ1 := (172, [some (.ref 8), some (.int x1), some (.ref 70), some (.int x3), some (.int x4), some (.int (I 9 (Int32.toNatClampNeg x4)))], [], (iq_sh l, I, J, X))) (fun _ => rfl) hc_ ?_
            refine iq_G_go (k := 2) (σ' := (25, [some (.ref 8), some (.int x1), some (.ref 70), some (.int x3), some (.int (x4 + (1 : Int32))), some (.int (I 9 (Int32.toNatClampNeg x4)))], [], (iq_sh l, I, J, X))) (fun _ => rfl) ?_
            cases h
            exact iq_G_fg (L := [some (.ref 8), some (.int x1), some (.ref 70), some (.int x3), some (.int (x4 + (1 : Int32))), none]) (And.intro rfl (And.intro rfl (And.intro rfl (And.intro rfl (And.intro rfl trivial))))) (hc (x3, (x4 + (1 : Int32)), I) rfl)
          · refine iq_G_neg (c := x3 ≤ 0) (σ1 := (110, [some (.ref 8), some (.int x1), some (.ref 70), some (.int x3), some (.int x4), some (.int (I 9 (Int32.toNatClampNeg x4)))], [], (iq_sh l, I, J, X))) (fun _ => rfl) hc_ ?_
            refine iq_G_go (k := 10) (σ' := (124, [some (.ref 8), some (.int x1), some (.ref 70), some (.int x3), some (.int x4), some (.int (I 9 (Int32.toNatClampNeg x4)))], [.int (x3 - (1 : Int32)), .ref 12, .int (x3 - (1 : Int32)), .ref 12], (iq_sh l, I, J, X))) (fun _ => rfl) ?_
            obtain ⟨hc_, h⟩ := iq_itn h
            have st_ : ∀ (z_0 : Int32) (r_ : iq_R × iq_M), iq_in z_0 64 → iq_Gg 1 134 (125, [some (.ref 8), some (.int x1), some (.ref 70), some (.int x3), some (.int x4), some (.int (I 9 (Int32.toNatClampNeg x4)))], [.int (I 12 (Int32.toNatClampNeg z_0)), .int z_0, .ref 12], (iq_sh l, I, J, X)) r_ → iq_Gg 1 134 (124, [some (.ref 8), some (.int x1), some (.ref 70), some (.int x3), some (.int x4), some (.int (I 9 (Int32.toNatClampNeg x4)))], [.int z_0, .ref 12, .int z_0, .ref 12], (iq_sh l, I, J, X)) r_ := fun z_0 r_ hc_ hg_ => iq_G_pos (c := iq_in z_0 64) (σ1 := (125, [some (.ref 8), some (.int x1), some (.ref 70), some (.int x3), some (.int x4), some (.int (I 9 (Int32.toNatClampNeg x4)))], [.int (I 12 (Int32.toNatClampNeg z_0)), .int z_0, .ref 12], (iq_sh l, I, J, X))) (fun _ => rfl) hc_ hg_
            refine st_ (x3 - (1 : Int32)) _ hc_ ?_
            clear st_
            rcases iq_ite h with ⟨hc_, h⟩ | ⟨hc_, h⟩
            · have st_ : ∀ (z_0 : Int32) (r_ : iq_R × iq_M), ¬ z_0 = 0 → iq_Gg 1 134 (132, [some (.ref 8), some (.int x1), some (.ref 70), some (.int x3), some (.int x4), some (.int (I 9 (Int32.toNatClampNeg x4)))], [.int (x3 - (1 : Int32)), .ref 12], (iq_sh l, I, J, X)) r_ → iq_Gg 1 134 (125, [some (.ref 8), some (.int x1), some (.ref 70), some (.int x3), some (.int x4), some (.int (I 9 (Int32.toNatClampNeg x4)))], [.int z_0, .int (x3 - (1 : Int32)), .ref 12], (iq_sh l, I, J, X)) r_ := fun z_0 r_ hc_ hg_ => iq_G_pos (c := ¬ z_0 = 0) (σ1 := (132, [some (.ref 8), some (.int x1), some (.ref 70), some (.int x3), some (.int x4), some (.int (I 9 (Int32.toNatClampNeg x4)))], [.int (x3 - (1 : Int32)), .ref 12], (iq_sh l, I, J, X))) (fun _ => rfl) hc_ hg_
              refine st_ (I 12 (Int32.toNatClampNeg (x3 - (1 : Int32)))) _ hc_ ?_
              clear st_
              refine iq_G_go (k := 1) (σ' := (133, [some (.ref 8), some (.int x1), some (.ref 70), some (.int x3), some (.int x4), some (.int (I 9 (Int32.toNatClampNeg x4)))], [.int (0 : Int32), .int (x3 - (1 : Int32)), .ref 12], (iq_sh l, I, J, X))) (fun _ => rfl) ?_
              exact iq_G_fg (L := [some (.ref 8), some (.int x1), some (.ref 70), some (.int x3), some (.int x4), none]) (And.intro rfl (And.intro rfl (And.intro rfl (And.intro rfl (And.intro rfl trivial))))) (zE_give_133_ok l x1 x3 x4 (x3 - (1 : Int32)) (0 : Int32) I J X  h r hc hx)
            · have st_ : ∀ (z_0 : Int32) (r_ : iq_R × iq_M), ¬ (¬ z_0 = 0) → iq_Gg 1 134 (128, [some (.ref 8), some (.int x1), some (.ref 70), some (.int x3), some (.int x4), some (.int (I 9 (Int32.toNatClampNeg x4)))], [.int (x3 - (1 : Int32)), .ref 12], (iq_sh l, I, J, X)) r_ → iq_Gg 1 134 (125, [some (.ref 8), some (.int x1), some (.ref 70), some (.int x3), some (.int x4), some (.int (I 9 (Int32.toNatClampNeg x4)))], [.int z_0, .int (x3 - (1 : Int32)), .ref 12], (iq_sh l, I, J, X)) r_ := fun z_0 r_ hc_ hg_ => iq_G_neg (c := ¬ z_0 = 0) (σ1 := (128, [some (.ref 8), some (.int x1), some (.ref 70), some (.int x3), some (.int x4), some (.int (I 9 (Int32.toNatClampNeg x4)))], [.int (x3 - (1 : Int32)), .ref 12], (iq_sh l, I, J, X))) (fun _ => rfl) hc_ hg_
              refine st_ (I 12 (Int32.toNatClampNeg (x3 - (1 : Int32)))) _ hc_ ?_
              clear st_
              refine iq_G_go (k := 2) (σ' := (133, [some (.ref 8), some (.int x1), some (.ref 70), some (.int x3), some (.int x4), some (.int (I 9 (Int32.toNatClampNeg x4)))], [.int (1 : Int32), .int (x3 - (1 : Int32)), .ref 12], (iq_sh l, I, J, X))) (fun _ => rfl) ?_
              exact iq_G_fg (L := [some (.ref 8), some (.int x1), some (.ref 70), some (.int x3), some (.int x4), none]) (And.intro rfl (And.intro rfl (And.intro rfl (And.intro rfl (And.intro rfl trivial))))) (zE_give_133_ok l x1 x3 x4 (x3 - (1 : Int32)) (1 : Int32) I J X  h r hc hx)
      · refine iq_G_neg (c := (I 9 (Int32.toNatClampNeg x4)) ≤ (-8 : Int32)) (σ1 := (62, [some (.ref 8), some (.int x1), some (.ref 70), some (.int x3), some (.int x4), some (.int (I 9 (Int32.toNatClampNeg x4)))], [], (iq_sh l, I, J, X))) (fun _ => rfl) hc_ ?_
        refine iq_G_go (k := 4) (σ' := (68, [some (.ref 8), some (.int x1), some (.ref 70), some (.int x3), some (.int x4), some (.int (I 9 (Int32.toNatClampNeg x4)))], [.int (64 : Int32), .int x3], (iq_sh l, I, J, X))) (fun _ => rfl) ?_
        rcases iq_ite h with ⟨hc_, h⟩ | ⟨hc_, h⟩
        · refine iq_G_pos (c := (64 : Int32) ≤ x3) (σ1 := (172, [some (.ref 8), some (.int x1), some (.ref 70), some (.int x3), some (.int x4), some (.int (I 9 (Int32.toNatClampNeg x4)))], [], (iq_sh l, I, J, X))) (fun _ => rfl) hc_ ?_
          refine iq_G_go (k := 2) (σ' := (25, [some (.ref 8), some (.int x1), some (.ref 70), some (.int x3), some (.int (x4 + (1 : Int32))), some (.int (I 9 (Int32.toNatClampNeg x4)))], [], (iq_sh l, I, J, X))) (fun _ => rfl) ?_
          cases h
          exact iq_G_fg (L := [some (.ref 8), some (.int x1), some (.ref 70), some (.int x3), some (.int (x4 + (1 : Int32))), none]) (And.intro rfl (And.intro rfl (And.intro rfl (And.intro rfl (And.intro rfl trivial))))) (hc (x3, (x4 + (1 : Int32)), I) rfl)
        · refine iq_G_neg (c := (64 : Int32) ≤ x3) (σ1 := (71, [some (.ref 8), some (.int x1), some (.ref 70), some (.int x3), some (.int x4), some (.int (I 9 (Int32.toNatClampNeg x4)))], [], (iq_sh l, I, J, X))) (fun _ => rfl) hc_ ?_
          refine iq_G_go (k := 4) (σ' := (78, [some (.ref 8), some (.int x1), some (.ref 70), some (.int x3), some (.int x4), some (.int (I 9 (Int32.toNatClampNeg x4)))], [.int (I 9 (Int32.toNatClampNeg x4)), .int x3, .ref 12], (iq_sh l, I, J, X))) (fun _ => rfl) ?_
          rcases iq_ite h with ⟨hc_, h⟩ | ⟨hc_, h⟩
          · refine iq_G_pos (c := (I 9 (Int32.toNatClampNeg x4)) < 0) (σ1 := (86, [some (.ref 8), some (.int x1), some (.ref 70), some (.int x3), some (.int x4), some (.int (I 9 (Int32.toNatClampNeg x4)))], [.int x3, .ref 12], (iq_sh l, I, J, X))) (fun _ => rfl) hc_ ?_
            refine iq_G_go (k := 2) (σ' := (89, [some (.ref 8), some (.int x1), some (.ref 70), some (.int x3), some (.int x4), some (.int (I 9 (Int32.toNatClampNeg x4)))], [.ref 70, .int (I 9 (Int32.toNatClampNeg x4)), .int x3, .ref 12], (iq_sh l, I, J, X))) (fun _ => rfl) ?_
            obtain ⟨q4, hq4, h⟩ := iq_bnd h
            refine iq_G_call (σ' := (92, [some (.ref 8), some (.int x1), some (.ref 70), some (.int x3), some (.int x4), some (.int (I 9 (Int32.toNatClampNeg x4)))], [.int q4, .int x3, .ref 12], (iq_sh l, I, J, X))) (fun _ => rfl) (zE_valueOf_ok l (I 9 (Int32.toNatClampNeg x4)) I J X hq4) rfl rfl ?_
            exact iq_G_fg (L := [some (.ref 8), some (.int x1), some (.ref 70), some (.int x3), some (.int x4), none]) (And.intro rfl (And.intro rfl (And.intro rfl (And.intro rfl (And.intro rfl trivial))))) (zE_give_92_ok l x1 x3 x4 x3 q4 I J X  h r hc hx)
          · refine iq_G_neg (c := (I 9 (Int32.toNatClampNeg x4)) < 0) (σ1 := (81, [some (.ref 8), some (.int x1), some (.ref 70), some (.int x3), some (.int x4), some (.int (I 9 (Int32.toNatClampNeg x4)))], [.int x3, .ref 12], (iq_sh l, I, J, X))) (fun _ => rfl) hc_ ?_
            refine iq_G_go (k := 2) (σ' := (92, [some (.ref 8), some (.int x1), some (.ref 70), some (.int x3), some (.int x4), some (.int (I 9 (Int32.toNatClampNeg x4)))], [.int (I 9 (Int32.toNatClampNeg x4)), .int x3, .ref 12], (iq_sh l, I, J, X))) (fun _ => rfl) ?_
            exact iq_G_fg (L := [some (.ref 8), some (.int x1), some (.ref 70), some (.int x3), some (.int x4), none]) (And.intro rfl (And.intro rfl (And.intro rfl (And.intro rfl (And.intro rfl trivial))))) (zE_give_92_ok l x1 x3 x4 x3 (I 9 (Int32.toNatClampNeg x4)) I J X  h r hc hx)
set_option maxRecDepth 100000 in
theorem zE_give_l25_ok (l : Nat)  (x1 : Int32) (J : iq_J) (X : iq_X) {n : Nat} {v : Int32 × Int32 × iq_I} {w : Int32 × iq_I} (h : zE_give_l25 x1 n v = some w) (r : iq_R × iq_M) (hq : iq_Gg 1 134 (178, [some (.ref 8), none, none, some (.int w.1), none, none], [], (iq_sh l, w.2, J, X)) r) : iq_Gg 1 134 (25, [some (.ref 8), some (.int x1), some (.ref 70), some (.int v.1), some (.int v.2.1), none], [], (iq_sh l, v.2.2, J, X)) r :=
  iq_lp_ok (σ := fun v => (25, [some (.ref 8), some (.int x1), some (.ref 70), some (.int v.1), some (.int v.2.1), none], [], (iq_sh l, v.2.2, J, X))) (Q := fun w r => iq_Gg 1 134 (178, [some (.ref 8), none, none, some (.int w.1), none, none], [], (iq_sh l, w.2, J, X)) r) (fun v q hv r h1 h2 => zE_give_l25_bok l x1 J X v.1 v.2.1 v.2.2 hv r h1 h2) h r hq
set_option maxRecDepth 100000 in
theorem zE_give_178_ok (l : Nat)  (x3 : Int32) (I : iq_I) (J : iq_J) (X : iq_X)  {q : Int32 × iq_I} (h : zE_give_178 x3 I = some q)  : iq_Gg 1 134 (178, [some (.ref 8), none, none, some (.int x3), none, none], [], (iq_sh l, I, J, X)) (.inl (some (.int q.1)), (iq_sh l, q.2, J, X)) := by
  unfold zE_give_178 at h
  refine iq_G_go (k := 1) (σ' := (179, [some (.ref 8), none, none, some (.int x3), none, none], [.int x3], (iq_sh l, I, J, X))) (fun _ => rfl) ?_
  rcases iq_ite h with ⟨hc_, h⟩ | ⟨hc_, h⟩
  · refine iq_G_pos (c := x3 ≤ 0) (σ1 := (191, [some (.ref 8), none, none, some (.int x3), none, none], [], (iq_sh l, I, J, X))) (fun _ => rfl) hc_ ?_
    refine iq_G_go (k := 1) (σ' := (192, [some (.ref 8), none, none, some (.int x3), none, none], [.int (0 : Int32)], (iq_sh l, I, J, X))) (fun _ => rfl) ?_
    cases h
    exact iq_G_ret (fun _ => rfl)
  · refine iq_G_neg (c := x3 ≤ 0) (σ1 := (182, [some (.ref 8), none, none, some (.int x3), none, none], [], (iq_sh l, I, J, X))) (fun _ => rfl) hc_ ?_
    refine iq_G_go (k := 3) (σ' := (187, [some (.ref 8), none, none, some (.int x3), none, none], [.int (0 : Int32), .ref 12], (iq_sh l, I, J, X))) (fun _ => rfl) ?_
    refine iq_G_go (k := 1) (σ' := (188, [some (.ref 8), none, none, some (.int x3), none, none], [.int (I 12 0)], (iq_sh l, I, J, X))) (fun _ => rfl) ?_
    refine iq_G_go (k := 1) (σ' := (192, [some (.ref 8), none, none, some (.int x3), none, none], [.int (I 12 0)], (iq_sh l, I, J, X))) (fun _ => rfl) ?_
    cases h
    exact iq_G_ret (fun _ => rfl)
set_option maxRecDepth 100000 in
theorem zE_give_ok (l : Nat)  (x1 : Int32) (I : iq_I) (J : iq_J) (X : iq_X) {q : Int32 × iq_I} (h : zE_give x1 I = some q) : iq_Cc 2 134 [.ref 8, .int x1, .ref 70] (iq_sh l, I, J, X) (.inl (some (.int q.1)), (iq_sh l, q.2, J, X)) := by
  refine iq_Cc_of (L := [some (.ref 8), some (.int x1), some (.ref 70), none, none, none]) rfl rfl ?_
  unfold zE_give at h
  refine iq_G_go (k := 1) (σ' := (1, [some (.ref 8), some (.int x1), some (.ref 70), none, none, none], [.int x1], (iq_sh l, I, J, X))) (fun _ => rfl) ?_
  rcases iq_ite h with ⟨hc_, h⟩ | ⟨hc_, h⟩
  · refine iq_G_pos (c := x1 < 0) (σ1 := (13, [some (.ref 8), some (.int x1), some (.ref 70), none, none, none], [], (iq_sh l, I, J, X))) (fun _ => rfl) hc_ ?_
    refine iq_G_go (k := 1) (σ' := (14, [some (.ref 8), some (.int x1), some (.ref 70), none, none, none], [.int (0 : Int32)], (iq_sh l, I, J, X))) (fun _ => rfl) ?_
    cases h
    exact iq_G_ret (fun _ => rfl)
  · refine iq_G_neg (c := x1 < 0) (σ1 := (4, [some (.ref 8), some (.int x1), some (.ref 70), none, none, none], [], (iq_sh l, I, J, X))) (fun _ => rfl) hc_ ?_
    refine iq_G_go (k := 4) (σ' := (10, [some (.ref 8), some (.int x1), some (.ref 70), none, none, none], [.int (5 : Int32), .int x1], (iq_sh l, I, J, X))) (fun _ => rfl) ?_
    rcases iq_ite h with ⟨hc_, h⟩ | ⟨hc_, h⟩
    · refine iq_G_pos (c := x1 < (5 : Int32)) (σ1 := (15, [some (.ref 8), some (.int x1), some (.ref 70), none, none, none], [], (iq_sh l, I, J, X))) (fun _ => rfl) hc_ ?_
      refine iq_G_go (k := 5) (σ' := (22, [some (.ref 8), some (.int x1), some (.ref 70), some (.int (0 : Int32)), none, none], [.int x1, .ref 10], (iq_sh l, I, J, X))) (fun _ => rfl) ?_
      obtain ⟨hc_, h⟩ := iq_itn h
      refine iq_G_pos (c := iq_in x1 5) (σ1 := (23, [some (.ref 8), some (.int x1), some (.ref 70), some (.int (0 : Int32)), none, none], [.int (I 10 (Int32.toNatClampNeg x1))], (iq_sh l, I, J, X))) (fun _ => rfl) hc_ ?_
      refine iq_G_go (k := 1) (σ' := (25, [some (.ref 8), some (.int x1), some (.ref 70), some (.int (0 : Int32)), some (.int (I 10 (Int32.toNatClampNeg x1))), none], [], (iq_sh l, I, J, X))) (fun _ => rfl) ?_
      obtain ⟨w6, hw6, h⟩ := iq_bnd h
      refine iq_G_fg (L := [some (.ref 8), some (.int x1), some (.ref 70), some (.int (0 : Int32)), some (.int (I 10 (Int32.toNatClampNeg x1))), none]) (And.intro rfl (And.intro rfl (And.intro rfl (And.intro rfl (And.intro rfl trivial))))) ?_
      refine zE_give_l25_ok l x1 J X hw6 _ ?_
      show iq_Gg 1 134 (178, [some (.ref 8), none, none, some (.int w6.1), none, none], [], (iq_sh l, w6.2, J, X)) _
      exact iq_G_fg (L := [some (.ref 8), none, none, some (.int w6.1), none, none]) (And.intro rfl (And.intro rfl trivial)) (zE_give_178_ok l w6.1 w6.2 J X  h )
    · refine iq_G_neg (c := x1 < (5 : Int32)) (σ1 := (13, [some (.ref 8), some (.int x1), some (.ref 70), none, none, none], [], (iq_sh l, I, J, X))) (fun _ => rfl) hc_ ?_
      refine iq_G_go (k := 1) (σ' := (14, [some (.ref 8), some (.int x1), some (.ref 70), none, none, none], [.int (0 : Int32)], (iq_sh l, I, J, X))) (fun _ => rfl) ?_
      cases h
      exact iq_G_ret (fun _ => rfl)
set_option maxRecDepth 100000 in
theorem zH_isLawful_69_16_ok (l : Nat)  (x2 : Int32) (x3 : Int32) (x4 : Int32) (I : iq_I) (J : iq_J) (X : iq_X) {q : Int32 × iq_I} (h : zH_isLawful_69_16 x2 x3 x4 I = some q) : iq_Cc 3 22 [.ref 69, .ref 16, .int x2, .int x3, .int x4] (iq_sh l, I, J, X) (.inl (some (.int q.1)), (iq_sh l, q.2, J, X)) := by
  refine iq_Cc_of (L := [some (.ref 69), some (.ref 16), some (.int x2), some (.int x3), some (.int x4)]) rfl rfl ?_
  unfold zH_isLawful_69_16 at h
  refine iq_G_go (k := 4) (σ' := (10, [some (.ref 69), some (.ref 16), some (.int x2), some (.int x3), some (.int x4)], [.int (I 8 1)], (iq_sh l, I, J, X))) (fun _ => rfl) ?_
  rcases iq_ite h with ⟨hc_, h⟩ | ⟨hc_, h⟩
  · refine iq_G_pos (c := ¬ (I 8 1) = 0) (σ1 := (15, [some (.ref 69), some (.ref 16), some (.int x2), some (.int x3), some (.int x4)], [], (iq_sh l, I, J, X))) (fun _ => rfl) hc_ ?_
    refine iq_G_go (k := 5) (σ' := (21, [some (.ref 69), some (.ref 16), some (.int x2), some (.int x3), some (.int x4)], [.int x4, .int x3, .int x2, .ref 16, .ref 69], (iq_sh l, I, J, X))) (fun _ => rfl) ?_
    obtain ⟨q1, hq1, h⟩ := iq_bnd h
    refine iq_G_call (σ' := (24, [some (.ref 69), some (.ref 16), some (.int x2), some (.int x3), some (.int x4)], [], (iq_sh l, q1, J, X))) (fun _ => rfl) (zH_fillValues_69_16_ok l x2 x3 x4 I J X hq1) rfl rfl ?_
    refine iq_G_go (k := 6) (σ' := (36, [some (.ref 69), some (.ref 16), some (.int x2), some (.int x3), some (.int x4)], [.ref 70, .int (4 : Int32), .ref 8], (iq_sh l, q1, J, X))) (fun _ => rfl) ?_
    obtain ⟨q2, hq2, h⟩ := iq_bnd h
    refine iq_G_call (σ' := (39, [some (.ref 69), some (.ref 16), some (.int x2), some (.int x3), some (.int x4)], [.int q2.1], (iq_sh l, q2.2, J, X))) (fun _ => rfl) (zE_give_ok l (4 : Int32) q1 J X hq2) rfl rfl ?_
    rcases iq_ite h with ⟨hc_, h⟩ | ⟨hc_, h⟩
    · refine iq_G_pos (c := q2.1 = 0) (σ1 := (46, [some (.ref 69), some (.ref 16), some (.int x2), some (.int x3), some (.int x4)], [], (iq_sh l, q2.2, J, X))) (fun _ => rfl) hc_ ?_
      refine iq_G_go (k := 1) (σ' := (47, [some (.ref 69), some (.ref 16), some (.int x2), some (.int x3), some (.int x4)], [.int (0 : Int32)], (iq_sh l, q2.2, J, X))) (fun _ => rfl) ?_
      cases h
      exact iq_G_ret (fun _ => rfl)
    · refine iq_G_neg (c := q2.1 = 0) (σ1 := (42, [some (.ref 69), some (.ref 16), some (.int x2), some (.int x3), some (.int x4)], [], (iq_sh l, q2.2, J, X))) (fun _ => rfl) hc_ ?_
      refine iq_G_go (k := 2) (σ' := (47, [some (.ref 69), some (.ref 16), some (.int x2), some (.int x3), some (.int x4)], [.int (1 : Int32)], (iq_sh l, q2.2, J, X))) (fun _ => rfl) ?_
      cases h
      exact iq_G_ret (fun _ => rfl)
  · refine iq_G_neg (c := ¬ (I 8 1) = 0) (σ1 := (13, [some (.ref 69), some (.ref 16), some (.int x2), some (.int x3), some (.int x4)], [], (iq_sh l, I, J, X))) (fun _ => rfl) hc_ ?_
    refine iq_G_go (k := 1) (σ' := (14, [some (.ref 69), some (.ref 16), some (.int x2), some (.int x3), some (.int x4)], [.int (1 : Int32)], (iq_sh l, I, J, X))) (fun _ => rfl) ?_
    cases h
    exact iq_G_ret (fun _ => rfl)
set_option maxRecDepth 100000 in
theorem zH_daysFor_l27_bok (l : Nat)  (x2 : Int32) (x3 : Int32) (J : iq_J) (X : iq_X) (x4 : Int32) (x5 : Int32) (I : iq_I) {q : (Int32 × Int32 × iq_I) ⊕ (Int32 × iq_I)} (h : zH_daysFor_l27_b x2 x3 x4 x5 I = some q) (r : iq_R × iq_M) (hc : ∀ v, q = .inl v → iq_Gg 3 20 (27, [some (.ref 69), some (.ref 16), some (.int x2), some (.int x3), some (.int v.1), some (.int v.2.1)], [], (iq_sh l, v.2.2, J, X)) r) (hx : ∀ w, q = .inr w → iq_Gg 3 20 (61, [none, none, none, none, some (.int w.1), none], [], (iq_sh l, w.2, J, X)) r) : iq_Gg 3 20 (27, [some (.ref 69), some (.ref 16), some (.int x2), some (.int x3), some (.int x4), some (.int x5)], [], (iq_sh l, I, J, X)) r := by
  unfold zH_daysFor_l27_b at h
  refine iq_G_go (k := 2) (σ' := (31, [some (.ref 69), some (.ref 16), some (.int x2), some (.int x3), some (.int x4), some (.int x5)], [.int (7 : Int32), .int x5], (iq_sh l, I, J, X))) (fun _ => rfl) ?_
  rcases iq_ite h with ⟨hc_, h⟩ | ⟨hc_, h⟩
  · refine iq_G_pos (c := (7 : Int32) ≤ x5) (σ1 := (61, [some (.ref 69), some (.ref 16), some (.int x2), some (.int x3), some (.int x4), some (.int x5)], [], (iq_sh l, I, J, X))) (fun _ => rfl) hc_ ?_
    cases h
    exact iq_G_fg (L := [none, none, none, none, some (.int x4), none]) (And.intro rfl trivial) (hx (x4, I) rfl)
  · refine iq_G_neg (c := (7 : Int32) ≤ x5) (σ1 := (34, [some (.ref 69), some (.ref 16), some (.int x2), some (.int x3), some (.int x4), some (.int x5)], [], (iq_sh l, I, J, X))) (fun _ => rfl) hc_ ?_
    refine iq_G_go (k := 5) (σ' := (40, [some (.ref 69), some (.ref 16), some (.int x2), some (.int x3), some (.int x4), some (.int x5)], [.int x5, .int x3, .int x2, .ref 16, .ref 69], (iq_sh l, I, J, X))) (fun _ => rfl) ?_
    obtain ⟨q3, hq3, h⟩ := iq_bnd h
    refine iq_G_call (σ' := (43, [some (.ref 69), some (.ref 16), some (.int x2), some (.int x3), some (.int x4), some (.int x5)], [.int q3.1], (iq_sh l, q3.2, J, X))) (fun _ => rfl) (zH_isLawful_69_16_ok l x2 x3 x5 I J X hq3) rfl rfl ?_
    rcases iq_ite h with ⟨hc_, h⟩ | ⟨hc_, h⟩
    · refine iq_G_pos (c := q3.1 = 0) (σ1 := (55, [some (.ref 69), some (.ref 16), some (.int x2), some (.int x3), some (.int x4), some (.int x5)], [], (iq_sh l, q3.2, J, X))) (fun _ => rfl) hc_ ?_
      refine iq_G_go (k := 2) (σ' := (27, [some (.ref 69), some (.ref 16), some (.int x2), some (.int x3), some (.int x4), some (.int (x5 + (1 : Int32)))], [], (iq_sh l, q3.2, J, X))) (fun _ => rfl) ?_
      cases h
      exact iq_G_fg (L := [some (.ref 69), some (.ref 16), some (.int x2), some (.int x3), some (.int x4), some (.int (x5 + (1 : Int32)))]) (And.intro rfl (And.intro rfl (And.intro rfl (And.intro rfl (And.intro rfl (And.intro rfl trivial)))))) (hc (x4, (x5 + (1 : Int32)), q3.2) rfl)
    · refine iq_G_neg (c := q3.1 = 0) (σ1 := (46, [some (.ref 69), some (.ref 16), some (.int x2), some (.int x3), some (.int x4), some (.int x5)], [], (iq_sh l, q3.2, J, X))) (fun _ => rfl) hc_ ?_
      refine iq_G_go (k := 8) (σ' := (27, [some (.ref 69), some (.ref 16), some (.int x2), some (.int x3), some (.int (x4 ||| ((1 : Int32) <<< (x5 &&& 31)))), some (.int (x5 + (1 : Int32)))], [], (iq_sh l, q3.2, J, X))) (fun _ => rfl) ?_
      cases h
      exact iq_G_fg (L := [some (.ref 69), some (.ref 16), some (.int x2), some (.int x3), some (.int (x4 ||| ((1 : Int32) <<< (x5 &&& 31)))), some (.int (x5 + (1 : Int32)))]) (And.intro rfl (And.intro rfl (And.intro rfl (And.intro rfl (And.intro rfl (And.intro rfl trivial)))))) (hc ((x4 ||| ((1 : Int32) <<< (x5 &&& 31))), (x5 + (1 : Int32)), q3.2) rfl)
set_option maxRecDepth 100000 in
theorem zH_daysFor_l27_ok (l : Nat)  (x2 : Int32) (x3 : Int32) (J : iq_J) (X : iq_X) {n : Nat} {v : Int32 × Int32 × iq_I} {w : Int32 × iq_I} (h : zH_daysFor_l27 x2 x3 n v = some w) (r : iq_R × iq_M) (hq : iq_Gg 3 20 (61, [none, none, none, none, some (.int w.1), none], [], (iq_sh l, w.2, J, X)) r) : iq_Gg 3 20 (27, [some (.ref 69), some (.ref 16), some (.int x2), some (.int x3), some (.int v.1), some (.int v.2.1)], [], (iq_sh l, v.2.2, J, X)) r :=
  iq_lp_ok (σ := fun v => (27, [some (.ref 69), some (.ref 16), some (.int x2), some (.int x3), some (.int v.1), some (.int v.2.1)], [], (iq_sh l, v.2.2, J, X))) (Q := fun w r => iq_Gg 3 20 (61, [none, none, none, none, some (.int w.1), none], [], (iq_sh l, w.2, J, X)) r) (fun v q hv r h1 h2 => zH_daysFor_l27_bok l x2 x3 J X v.1 v.2.1 v.2.2 hv r h1 h2) h r hq
set_option maxRecDepth 100000 in
theorem zH_daysFor_ok (l : Nat)  (x2 : Int32) (x3 : Int32) (I : iq_I) (J : iq_J) (X : iq_X) {q : Int32 × iq_I} (h : zH_daysFor x2 x3 I = some q) : iq_Cc 4 20 [.ref 69, .ref 16, .int x2, .int x3] (iq_sh l, I, J, X) (.inl (some (.int q.1)), (iq_sh l, q.2, J, X)) := by
  refine iq_Cc_of (L := [some (.ref 69), some (.ref 16), some (.int x2), some (.int x3), none, none]) rfl rfl ?_
  unfold zH_daysFor at h
  refine iq_G_go (k := 7) (σ' := (9, [some (.ref 69), some (.ref 16), some (.int x2), some (.int x3), none, none], [.int x2, .ref 16, .ref 4, .int x2, .ref 16, .ref 69], (iq_sh l, I, J, X))) (fun _ => rfl) ?_
  obtain ⟨q1, hq1, h⟩ := iq_bnd h
  refine iq_G_call (σ' := (12, [some (.ref 69), some (.ref 16), some (.int x2), some (.int x3), none, none], [.int q1, .int x2, .ref 16, .ref 69], (iq_sh l, I, J, X))) (fun _ => rfl) (zU_stateOf_4_16_ok l x2 I J X hq1) rfl rfl ?_
  refine iq_G_go (k := 1) (σ' := (13, [some (.ref 69), some (.ref 16), some (.int x2), some (.int x3), none, none], [.int x3, .int q1, .int x2, .ref 16, .ref 69], (iq_sh l, I, J, X))) (fun _ => rfl) ?_
  obtain ⟨q2, hq2, h⟩ := iq_bnd h
  refine iq_G_call (σ' := (16, [some (.ref 69), some (.ref 16), some (.int x2), some (.int x3), none, none], [.int q2], (iq_sh l, I, J, X))) (fun _ => rfl) (zH_isFree_69_16_ok l x2 q1 x3 I J X hq2) rfl rfl ?_
  rcases iq_ite h with ⟨hc_, h⟩ | ⟨hc_, h⟩
  · refine iq_G_pos (c := ¬ q2 = 0) (σ1 := (21, [some (.ref 69), some (.ref 16), some (.int x2), some (.int x3), none, none], [], (iq_sh l, I, J, X))) (fun _ => rfl) hc_ ?_
    refine iq_G_go (k := 4) (σ' := (27, [some (.ref 69), some (.ref 16), some (.int x2), some (.int x3), some (.int (0 : Int32)), some (.int (0 : Int32))], [], (iq_sh l, I, J, X))) (fun _ => rfl) ?_
    obtain ⟨w4, hw4, h⟩ := iq_bnd h
    refine iq_G_fg (L := [some (.ref 69), some (.ref 16), some (.int x2), some (.int x3), some (.int (0 : Int32)), some (.int (0 : Int32))]) (And.intro rfl (And.intro rfl (And.intro rfl (And.intro rfl (And.intro rfl (And.intro rfl trivial)))))) ?_
    refine zH_daysFor_l27_ok l x2 x3 J X hw4 _ ?_
    show iq_Gg 3 20 (61, [none, none, none, none, some (.int w4.1), none], [], (iq_sh l, w4.2, J, X)) _
    refine iq_G_go (k := 1) (σ' := (63, [none, none, none, none, some (.int w4.1), none], [.int w4.1], (iq_sh l, w4.2, J, X))) (fun _ => rfl) ?_
    cases h
    exact iq_G_ret (fun _ => rfl)
  · refine iq_G_neg (c := ¬ q2 = 0) (σ1 := (19, [some (.ref 69), some (.ref 16), some (.int x2), some (.int x3), none, none], [], (iq_sh l, I, J, X))) (fun _ => rfl) hc_ ?_
    refine iq_G_go (k := 1) (σ' := (20, [some (.ref 69), some (.ref 16), some (.int x2), some (.int x3), none, none], [.int (0 : Int32)], (iq_sh l, I, J, X))) (fun _ => rfl) ?_
    cases h
    exact iq_G_ret (fun _ => rfl)
set_option maxRecDepth 100000 in
theorem zO_days_ok (l : Nat)  (x1 : Int32) (x2 : Int32) (I : iq_I) (J : iq_J) (X : iq_X) {q : (Int32 ⊕ Nat) × iq_I × iq_X} (h : zO_days x1 x2 I X = some q) : iq_Cc 5 182 [.ref 1, .int x1, .int x2] (iq_sh l, I, J, X) ((ir_Ri q.1), (iq_sh l, q.2.1, J, q.2.2)) := by
  refine iq_Cc_of (L := [some (.ref 1), some (.int x1), some (.int x2)]) rfl rfl ?_
  unfold zO_days at h
  refine iq_G_go (k := 2) (σ' := (2, [some (.ref 1), some (.int x1), some (.int x2)], [.int x1, .ref 1], (iq_sh l, I, J, X))) (fun _ => rfl) ?_
  obtain ⟨q1, hq1, h⟩ := iq_bnd h
  have hC := (zO_needSaying_ok l x1 I J X hq1)
  rcases iq_smc h with ⟨a2, ha, h⟩ | ⟨k3, ha, h⟩
  · rw [ha] at hC
    refine iq_G_call (σ' := (5, [some (.ref 1), some (.int x1), some (.int x2)], [], (iq_sh l, I, J, q1.2))) (fun _ => rfl) hC rfl rfl ?_
    refine iq_G_go (k := 2) (σ' := (7, [some (.ref 1), some (.int x1), some (.int x2)], [.int x2, .ref 1], (iq_sh l, I, J, q1.2))) (fun _ => rfl) ?_
    obtain ⟨q4, hq4, h⟩ := iq_bnd h
    have hC := (zO_needWord_ok l x2 I J q1.2 hq4)
    rcases iq_smc h with ⟨a5, ha, h⟩ | ⟨k6, ha, h⟩
    · rw [ha] at hC
      refine iq_G_call (σ' := (10, [some (.ref 1), some (.int x1), some (.int x2)], [], (iq_sh l, I, J, q4.2))) (fun _ => rfl) hC rfl rfl ?_
      refine iq_G_go (k := 6) (σ' := (20, [some (.ref 1), some (.int x1), some (.int x2)], [.int x2, .int x1, .ref 16, .ref 69], (iq_sh l, I, J, q4.2))) (fun _ => rfl) ?_
      obtain ⟨q7, hq7, h⟩ := iq_bnd h
      refine iq_G_call (σ' := (23, [some (.ref 1), some (.int x1), some (.int x2)], [.int q7.1], (iq_sh l, q7.2, J, q4.2))) (fun _ => rfl) (zH_daysFor_ok l x1 x2 I J q4.2 hq7) rfl rfl ?_
      cases h
      exact iq_G_ret (fun _ => rfl)
    · rw [ha] at hC
      cases h
      exact iq_G_callx (fun _ => rfl) hC rfl rfl
  · rw [ha] at hC
    cases h
    exact iq_G_callx (fun _ => rfl) hC rfl rfl
set_option maxRecDepth 100000 in
theorem zL_days_ok (l : Nat)  (x1 : Int32) (x2 : Int32) (I : iq_I) (J : iq_J) (X : iq_X) {q : Int32 × iq_I × iq_J × iq_X} (h : zL_days x1 x2 I J X = some q) : iq_Cc 6 351 [.ref 1, .int x1, .int x2, .ref 114] (iq_sh l, I, J, X) (.inl (some (.int q.1)), (iq_sh l, q.2.1, q.2.2.1, q.2.2.2)) := by
  refine iq_Cc_of (L := [some (.ref 1), some (.int x1), some (.int x2), some (.ref 114), none]) rfl rfl ?_
  unfold zL_days at h
  refine iq_G_go (k := 5) (σ' := (5, [some (.ref 1), some (.int x1), some (.int x2), some (.ref 114), none], [.int x2, .int x1, .ref 1, .int (0 : Int32), .ref 114], (iq_sh l, I, J, X))) (fun _ => rfl) ?_
  obtain ⟨q1, hq1, h⟩ := iq_bnd h
  have hC := (zO_days_ok l x1 x2 I J X hq1)
  rcases iq_smc h with ⟨a2, ha, h⟩ | ⟨k3, ha, h⟩
  · rw [ha] at hC
    refine iq_G_call (σ' := (8, [some (.ref 1), some (.int x1), some (.int x2), some (.ref 114), none], [.int a2, .int (0 : Int32), .ref 114], (iq_sh l, q1.2.1, J, q1.2.2))) (fun _ => rfl) hC rfl rfl ?_
    refine iq_G_go (k := 1) (σ' := (9, [some (.ref 1), some (.int x1), some (.int x2), some (.ref 114), none], [.long (Int32.toInt64 a2), .int (0 : Int32), .ref 114], (iq_sh l, q1.2.1, J, q1.2.2))) (fun _ => rfl) ?_
    refine iq_G_go (k := 1) (σ' := (10, [some (.ref 1), some (.int x1), some (.int x2), some (.ref 114), none], [], (iq_sh l, q1.2.1, (iq_upJ J 114 0 (Int32.toInt64 a2)), q1.2.2))) (fun _ => rfl) ?_
    obtain ⟨J4, eJ4, h⟩ := ir_letG h
    rw [← eJ4]
    clear eJ4
    refine iq_G_go (k := 2) (σ' := (18, [some (.ref 1), some (.int x1), some (.int x2), some (.ref 114), none], [.int (0 : Int32)], (iq_sh l, q1.2.1, J4, q1.2.2))) (fun _ => rfl) ?_
    cases h
    exact iq_G_ret (fun _ => rfl)
  · rw [ha] at hC
    rcases iq_ite h with ⟨e, h⟩ | ⟨_, h⟩
    · subst e
      refine iq_G_call (σ' := (15, [some (.ref 1), some (.int x1), some (.int x2), some (.ref 114), none], [], (iq_sh l, q1.2.1, J, q1.2.2))) (fun _ => rfl) hC rfl rfl ?_
      refine iq_G_go (k := 1) (σ' := (16, [some (.ref 1), some (.int x1), some (.int x2), some (.ref 114), none], [.int (1 : Int32)], (iq_sh l, q1.2.1, J, q1.2.2))) (fun _ => rfl) ?_
      cases h
      exact iq_G_ret (fun _ => rfl)
    · obtain ⟨e, h⟩ := iq_itn h
      cases h
set_option maxRecDepth 100000 in
theorem zM_stateOf_76_98_l6_bok (l : Nat)  (x2 : Int32) (x4 : Int32) (I : iq_I) (J : iq_J) (X : iq_X) (x5 : Int32) (x6 : Int32)  {q : (Int32 × Int32) ⊕ (Int32)} (h : zM_stateOf_76_98_l6_b x2 x4 I x5 x6 = some q) (r : iq_R × iq_M) (hc : ∀ v, q = .inl v → iq_Gg 1 245 (6, [some (.ref 76), some (.ref 98), some (.int x2), none, some (.int x4), some (.int v.1), some (.int v.2)], [], (iq_sh l, I, J, X)) r) (hx : ∀ w, q = .inr w → iq_Gg 1 245 (49, [none, none, none, none, none, some (.int w), none], [], (iq_sh l, I, J, X)) r) : iq_Gg 1 245 (6, [some (.ref 76), some (.ref 98), some (.int x2), none, some (.int x4), some (.int x5), some (.int x6)], [], (iq_sh l, I, J, X)) r := by
  unfold zM_stateOf_76_98_l6_b at h
  refine iq_G_go (k := 3) (σ' := (10, [some (.ref 76), some (.ref 98), some (.int x2), none, some (.int x4), some (.int x5), some (.int x6)], [.int x2, .ref 98, .int x6], (iq_sh l, I, J, X))) (fun _ => rfl) ?_
  obtain ⟨hc_, h⟩ := iq_itn h
  refine iq_G_pos (c := iq_in x2 206) (σ1 := (11, [some (.ref 76), some (.ref 98), some (.int x2), none, some (.int x4), some (.int x5), some (.int x6)], [.int (I 98 (Int32.toNatClampNeg x2)), .int x6], (iq_sh l, I, J, X))) (fun _ => rfl) hc_ ?_
  rcases iq_ite h with ⟨hc_, h⟩ | ⟨hc_, h⟩
  · refine iq_G_pos (c := (I 98 (Int32.toNatClampNeg x2)) ≤ x6) (σ1 := (49, [some (.ref 76), some (.ref 98), some (.int x2), none, some (.int x4), some (.int x5), some (.int x6)], [], (iq_sh l, I, J, X))) (fun _ => rfl) hc_ ?_
    cases h
    exact iq_G_fg (L := [none, none, none, none, none, some (.int x5), none]) (And.intro rfl trivial) (hx x5 rfl)
  · refine iq_G_neg (c := (I 98 (Int32.toNatClampNeg x2)) ≤ x6) (σ1 := (14, [some (.ref 76), some (.ref 98), some (.int x2), none, some (.int x4), some (.int x5), some (.int x6)], [], (iq_sh l, I, J, X))) (fun _ => rfl) hc_ ?_
    refine iq_G_go (k := 2) (σ' := (17, [some (.ref 76), some (.ref 98), some (.int x2), none, some (.int x4), some (.int x5), some (.int x6)], [.int (-1 : Int32), .int x5], (iq_sh l, I, J, X))) (fun _ => rfl) ?_
    rcases iq_ite h with ⟨hc_, h⟩ | ⟨hc_, h⟩
    · refine iq_G_pos (c := x5 = (-1 : Int32)) (σ1 := (49, [some (.ref 76), some (.ref 98), some (.int x2), none, some (.int x4), some (.int x5), some (.int x6)], [], (iq_sh l, I, J, X))) (fun _ => rfl) hc_ ?_
      cases h
      exact iq_G_fg (L := [none, none, none, none, none, some (.int x5), none]) (And.intro rfl trivial) (hx x5 rfl)
    · refine iq_G_neg (c := x5 = (-1 : Int32)) (σ1 := (20, [some (.ref 76), some (.ref 98), some (.int x2), none, some (.int x4), some (.int x5), some (.int x6)], [], (iq_sh l, I, J, X))) (fun _ => rfl) hc_ ?_
      refine iq_G_go (k := 2) (σ' := (24, [some (.ref 76), some (.ref 98), some (.int x2), none, some (.int x4), some (.int x5), some (.int x6)], [.int x4, .int x6], (iq_sh l, I, J, X))) (fun _ => rfl) ?_
      rcases iq_ite h with ⟨hc_, h⟩ | ⟨hc_, h⟩
      · refine iq_G_pos (c := x6 = x4) (σ1 := (43, [some (.ref 76), some (.ref 98), some (.int x2), none, some (.int x4), some (.int x5), some (.int x6)], [], (iq_sh l, I, J, X))) (fun _ => rfl) hc_ ?_
        refine iq_G_go (k := 2) (σ' := (6, [some (.ref 76), some (.ref 98), some (.int x2), none, some (.int x4), some (.int x5), some (.int (x6 + (1 : Int32)))], [], (iq_sh l, I, J, X))) (fun _ => rfl) ?_
        cases h
        exact iq_G_fg (L := [some (.ref 76), some (.ref 98), some (.int x2), none, some (.int x4), some (.int x5), some (.int (x6 + (1 : Int32)))]) (And.intro rfl (And.intro rfl (And.intro rfl (And.intro rfl (And.intro rfl (And.intro rfl trivial)))))) (hc (x5, (x6 + (1 : Int32))) rfl)
      · refine iq_G_neg (c := x6 = x4) (σ1 := (27, [some (.ref 76), some (.ref 98), some (.int x2), none, some (.int x4), some (.int x5), some (.int x6)], [], (iq_sh l, I, J, X))) (fun _ => rfl) hc_ ?_
        refine iq_G_go (k := 6) (σ' := (35, [some (.ref 76), some (.ref 98), some (.int x2), none, some (.int x4), some (.int x5), some (.int x6)], [.int x6, .int x2, .ref 98, .ref 76, .int x5, .ref 76], (iq_sh l, I, J, X))) (fun _ => rfl) ?_
        obtain ⟨q1, hq1, h⟩ := iq_bnd h
        refine iq_G_call (σ' := (38, [some (.ref 76), some (.ref 98), some (.int x2), none, some (.int x4), some (.int x5), some (.int x6)], [.int q1, .int x5, .ref 76], (iq_sh l, I, J, X))) (fun _ => rfl) (zM_wordAt_76_98_ok l x2 x6 I J X hq1) rfl rfl ?_
        obtain ⟨q2, hq2, h⟩ := iq_bnd h
        refine iq_G_call (σ' := (41, [some (.ref 76), some (.ref 98), some (.int x2), none, some (.int x4), some (.int x5), some (.int x6)], [.int q2], (iq_sh l, I, J, X))) (fun _ => rfl) (zM_leads_ok l x5 q1 I J X hq2) rfl rfl ?_
        refine iq_G_go (k := 3) (σ' := (6, [some (.ref 76), some (.ref 98), some (.int x2), none, some (.int x4), some (.int q2), some (.int (x6 + (1 : Int32)))], [], (iq_sh l, I, J, X))) (fun _ => rfl) ?_
        cases h
        exact iq_G_fg (L := [some (.ref 76), some (.ref 98), some (.int x2), none, some (.int x4), some (.int q2), some (.int (x6 + (1 : Int32)))]) (And.intro rfl (And.intro rfl (And.intro rfl (And.intro rfl (And.intro rfl (And.intro rfl trivial)))))) (hc (q2, (x6 + (1 : Int32))) rfl)
set_option maxRecDepth 100000 in
theorem zM_stateOf_76_98_l6_ok (l : Nat)  (x2 : Int32) (x4 : Int32) (I : iq_I) (J : iq_J) (X : iq_X) {n : Nat} {v : Int32 × Int32} {w : Int32} (h : zM_stateOf_76_98_l6 x2 x4 I n v = some w) (r : iq_R × iq_M) (hq : iq_Gg 1 245 (49, [none, none, none, none, none, some (.int w), none], [], (iq_sh l, I, J, X)) r) : iq_Gg 1 245 (6, [some (.ref 76), some (.ref 98), some (.int x2), none, some (.int x4), some (.int v.1), some (.int v.2)], [], (iq_sh l, I, J, X)) r :=
  iq_lp_ok (σ := fun v => (6, [some (.ref 76), some (.ref 98), some (.int x2), none, some (.int x4), some (.int v.1), some (.int v.2)], [], (iq_sh l, I, J, X))) (Q := fun w r => iq_Gg 1 245 (49, [none, none, none, none, none, some (.int w), none], [], (iq_sh l, I, J, X)) r) (fun v q hv r h1 h2 => zM_stateOf_76_98_l6_bok l x2 x4 I J X v.1 v.2 hv r h1 h2) h r hq
set_option maxRecDepth 100000 in
theorem zM_stateOf_76_98_ok (l : Nat)  (x2 : Int32) (x3 : Int32) (x4 : Int32) (I : iq_I) (J : iq_J) (X : iq_X) {q : Int32} (h : zM_stateOf_76_98 x2 x3 x4 I = some q) : iq_Cc 2 245 [.ref 76, .ref 98, .int x2, .int x3, .int x4] (iq_sh l, I, J, X) (.inl (some (.int q)), (iq_sh l, I, J, X)) := by
  refine iq_Cc_of (L := [some (.ref 76), some (.ref 98), some (.int x2), some (.int x3), some (.int x4), none, none]) rfl rfl ?_
  unfold zM_stateOf_76_98 at h
  refine iq_G_go (k := 4) (σ' := (6, [some (.ref 76), some (.ref 98), some (.int x2), some (.int x3), some (.int x4), some (.int x3), some (.int (0 : Int32))], [], (iq_sh l, I, J, X))) (fun _ => rfl) ?_
  obtain ⟨w3, hw3, h⟩ := iq_bnd h
  refine iq_G_fg (L := [some (.ref 76), some (.ref 98), some (.int x2), none, some (.int x4), some (.int x3), some (.int (0 : Int32))]) (And.intro rfl (And.intro rfl (And.intro rfl (And.intro rfl (And.intro rfl (And.intro rfl trivial)))))) ?_
  refine zM_stateOf_76_98_l6_ok l x2 x4 I J X hw3 _ ?_
  show iq_Gg 1 245 (49, [none, none, none, none, none, some (.int w3), none], [], (iq_sh l, I, J, X)) _
  refine iq_G_go (k := 1) (σ' := (51, [none, none, none, none, none, some (.int w3), none], [.int w3], (iq_sh l, I, J, X))) (fun _ => rfl) ?_
  cases h
  exact iq_G_ret (fun _ => rfl)
set_option maxRecDepth 100000 in
theorem zM_stateNow_76_98_ok (l : Nat)  (x2 : Int32) (I : iq_I) (J : iq_J) (X : iq_X) {q : Int32} (h : zM_stateNow_76_98 x2 I = some q) : iq_Cc 3 246 [.ref 76, .ref 98, .int x2] (iq_sh l, I, J, X) (.inl (some (.int q)), (iq_sh l, I, J, X)) := by
  refine iq_Cc_of (L := [some (.ref 76), some (.ref 98), some (.int x2)]) rfl rfl ?_
  unfold zM_stateNow_76_98 at h
  refine iq_G_go (k := 6) (σ' := (8, [some (.ref 76), some (.ref 98), some (.int x2)], [.int x2, .ref 83, .int x2, .ref 98, .ref 76], (iq_sh l, I, J, X))) (fun _ => rfl) ?_
  obtain ⟨hc_, h⟩ := iq_itn h
  refine iq_G_pos (c := iq_in x2 5) (σ1 := (9, [some (.ref 76), some (.ref 98), some (.int x2)], [.int (I 83 (Int32.toNatClampNeg x2)), .int x2, .ref 98, .ref 76], (iq_sh l, I, J, X))) (fun _ => rfl) hc_ ?_
  refine iq_G_go (k := 1) (σ' := (10, [some (.ref 76), some (.ref 98), some (.int x2)], [.int (-1 : Int32), .int (I 83 (Int32.toNatClampNeg x2)), .int x2, .ref 98, .ref 76], (iq_sh l, I, J, X))) (fun _ => rfl) ?_
  obtain ⟨q1, hq1, h⟩ := iq_bnd h
  refine iq_G_call (σ' := (13, [some (.ref 76), some (.ref 98), some (.int x2)], [.int q1], (iq_sh l, I, J, X))) (fun _ => rfl) (zM_stateOf_76_98_ok l x2 (I 83 (Int32.toNatClampNeg x2)) (-1 : Int32) I J X hq1) rfl rfl ?_
  cases h
  exact iq_G_ret (fun _ => rfl)
set_option maxRecDepth 100000 in
theorem zM_canFollow_l2_bok (l : Nat)  (x1 : Int32) (I : iq_I) (J : iq_J) (X : iq_X) (x2 : Int32)  {q : (Int32) ⊕ ((Unit) ⊕ (Int32))} (h : zM_canFollow_l2_b x1 I x2 = some q) (r : iq_R × iq_M) (hc : ∀ v, q = .inl v → iq_Gg 1 262 (2, [some (.ref 76), some (.int x1), some (.int v)], [], (iq_sh l, I, J, X)) r) (hx : ∀ w, q = .inr w → (∀ a, w = .inl a → iq_Gg 1 262 (28, [none, none, none], [], (iq_sh l, I, J, X)) r) ∧ (∀ b, w = .inr b → r = (.inl (some (.int b)), (iq_sh l, I, J, X)))) : iq_Gg 1 262 (2, [some (.ref 76), some (.int x1), some (.int x2)], [], (iq_sh l, I, J, X)) r := by
  unfold zM_canFollow_l2_b at h
  refine iq_G_go (k := 3) (σ' := (7, [some (.ref 76), some (.int x1), some (.int x2)], [.int (I 76 2), .int x2], (iq_sh l, I, J, X))) (fun _ => rfl) ?_
  rcases iq_ite h with ⟨hc_, h⟩ | ⟨hc_, h⟩
  · refine iq_G_pos (c := (I 76 2) ≤ x2) (σ1 := (28, [some (.ref 76), some (.int x1), some (.int x2)], [], (iq_sh l, I, J, X))) (fun _ => rfl) hc_ ?_
    cases h
    exact iq_G_fg (L := [none, none, none]) trivial ((hx (.inl ()) rfl).1 () rfl)
  · refine iq_G_neg (c := (I 76 2) ≤ x2) (σ1 := (10, [some (.ref 76), some (.int x1), some (.int x2)], [], (iq_sh l, I, J, X))) (fun _ => rfl) hc_ ?_
    refine iq_G_go (k := 3) (σ' := (13, [some (.ref 76), some (.int x1), some (.int x2)], [.int x2, .int x1, .ref 76], (iq_sh l, I, J, X))) (fun _ => rfl) ?_
    obtain ⟨q1, hq1, h⟩ := iq_bnd h
    refine iq_G_call (σ' := (16, [some (.ref 76), some (.int x1), some (.int x2)], [.int q1], (iq_sh l, I, J, X))) (fun _ => rfl) (zM_leads_ok l x1 x2 I J X hq1) rfl rfl ?_
    refine iq_G_go (k := 1) (σ' := (17, [some (.ref 76), some (.int x1), some (.int x2)], [.int (-1 : Int32), .int q1], (iq_sh l, I, J, X))) (fun _ => rfl) ?_
    rcases iq_ite h with ⟨hc_, h⟩ | ⟨hc_, h⟩
    · refine iq_G_pos (c := q1 = (-1 : Int32)) (σ1 := (22, [some (.ref 76), some (.int x1), some (.int x2)], [], (iq_sh l, I, J, X))) (fun _ => rfl) hc_ ?_
      refine iq_G_go (k := 2) (σ' := (2, [some (.ref 76), some (.int x1), some (.int (x2 + (1 : Int32)))], [], (iq_sh l, I, J, X))) (fun _ => rfl) ?_
      cases h
      exact iq_G_fg (L := [some (.ref 76), some (.int x1), some (.int (x2 + (1 : Int32)))]) (And.intro rfl (And.intro rfl (And.intro rfl trivial))) (hc (x2 + (1 : Int32)) rfl)
    · refine iq_G_neg (c := q1 = (-1 : Int32)) (σ1 := (20, [some (.ref 76), some (.int x1), some (.int x2)], [], (iq_sh l, I, J, X))) (fun _ => rfl) hc_ ?_
      refine iq_G_go (k := 1) (σ' := (21, [some (.ref 76), some (.int x1), some (.int x2)], [.int (1 : Int32)], (iq_sh l, I, J, X))) (fun _ => rfl) ?_
      cases h
      obtain rfl := (hx _ rfl).2 _ rfl
      exact iq_G_ret (fun _ => rfl)
set_option maxRecDepth 100000 in
theorem zM_canFollow_l2_ok (l : Nat)  (x1 : Int32) (I : iq_I) (J : iq_J) (X : iq_X) {n : Nat} {v : Int32} {w : (Unit) ⊕ (Int32)} (h : zM_canFollow_l2 x1 I n v = some w) (r : iq_R × iq_M) (hq : (∀ a, w = .inl a → iq_Gg 1 262 (28, [none, none, none], [], (iq_sh l, I, J, X)) r) ∧ (∀ b, w = .inr b → r = (.inl (some (.int b)), (iq_sh l, I, J, X)))) : iq_Gg 1 262 (2, [some (.ref 76), some (.int x1), some (.int v)], [], (iq_sh l, I, J, X)) r :=
  iq_lp_ok (σ := fun v => (2, [some (.ref 76), some (.int x1), some (.int v)], [], (iq_sh l, I, J, X))) (Q := fun w r => (∀ a, w = .inl a → iq_Gg 1 262 (28, [none, none, none], [], (iq_sh l, I, J, X)) r) ∧ (∀ b, w = .inr b → r = (.inl (some (.int b)), (iq_sh l, I, J, X)))) (fun v q hv r h1 h2 => zM_canFollow_l2_bok l x1 I J X v hv r h1 h2) h r hq
set_option maxRecDepth 100000 in
theorem zM_canFollow_ok (l : Nat)  (x1 : Int32) (I : iq_I) (J : iq_J) (X : iq_X) {q : Int32} (h : zM_canFollow x1 I = some q) : iq_Cc 2 262 [.ref 76, .int x1] (iq_sh l, I, J, X) (.inl (some (.int q)), (iq_sh l, I, J, X)) := by
  refine iq_Cc_of (L := [some (.ref 76), some (.int x1), none]) rfl rfl ?_
  unfold zM_canFollow at h
  refine iq_G_go (k := 2) (σ' := (2, [some (.ref 76), some (.int x1), some (.int (0 : Int32))], [], (iq_sh l, I, J, X))) (fun _ => rfl) ?_
  obtain ⟨w2, hw2, h⟩ := iq_bnd h
  refine iq_G_fg (L := [some (.ref 76), some (.int x1), some (.int (0 : Int32))]) (And.intro rfl (And.intro rfl (And.intro rfl trivial))) ?_
  refine zM_canFollow_l2_ok l x1 I J X hw2 _ ⟨fun a3 ha => ?_, fun b4 hb => ?_⟩
  · subst ha
    replace h := ir_smL h
    show iq_Gg 1 262 (28, [none, none, none], [], (iq_sh l, I, J, X)) _
    refine iq_G_go (k := 1) (σ' := (29, [none, none, none], [.int (0 : Int32)], (iq_sh l, I, J, X))) (fun _ => rfl) ?_
    cases h
    exact iq_G_ret (fun _ => rfl)
  · subst hb
    replace h := ir_smR h
    cases h
    rfl
set_option maxRecDepth 100000 in
theorem zM_lastLetter_ok (l : Nat)  (x1 : Int32) (I : iq_I) (J : iq_J) (X : iq_X) {q : Int32} (h : zM_lastLetter x1 I = some q) : iq_Cc 1 260 [.ref 76, .int x1] (iq_sh l, I, J, X) (.inl (some (.int q)), (iq_sh l, I, J, X)) := by
  refine iq_Cc_of (L := [some (.ref 76), some (.int x1)]) rfl rfl ?_
  unfold zM_lastLetter at h
  refine iq_G_go (k := 8) (σ' := (13, [some (.ref 76), some (.int x1)], [.int x1, .ref 78, .int ((9 : Int32) * x1), .ref 77], (iq_sh l, I, J, X))) (fun _ => rfl) ?_
  obtain ⟨hc_, h⟩ := iq_itn h
  refine iq_G_pos (c := iq_in x1 14) (σ1 := (14, [some (.ref 76), some (.int x1)], [.int (I 78 (Int32.toNatClampNeg x1)), .int ((9 : Int32) * x1), .ref 77], (iq_sh l, I, J, X))) (fun _ => rfl) hc_ ?_
  refine iq_G_go (k := 3) (σ' := (17, [some (.ref 76), some (.int x1)], [.int ((((9 : Int32) * x1) + (I 78 (Int32.toNatClampNeg x1))) - (1 : Int32)), .ref 77], (iq_sh l, I, J, X))) (fun _ => rfl) ?_
  obtain ⟨hc_, h⟩ := iq_itn h
  have st_ : ∀ (z_0 : Int32) (r_ : iq_R × iq_M), iq_in z_0 126 → iq_Gg 0 260 (18, [some (.ref 76), some (.int x1)], [.int (I 77 (Int32.toNatClampNeg z_0))], (iq_sh l, I, J, X)) r_ → iq_Gg 0 260 (17, [some (.ref 76), some (.int x1)], [.int z_0, .ref 77], (iq_sh l, I, J, X)) r_ := fun z_0 r_ hc_ hg_ => iq_G_pos (c := iq_in z_0 126) (σ1 := (18, [some (.ref 76), some (.int x1)], [.int (I 77 (Int32.toNatClampNeg z_0))], (iq_sh l, I, J, X))) (fun _ => rfl) hc_ hg_
  refine st_ ((((9 : Int32) * x1) + (I 78 (Int32.toNatClampNeg x1))) - (1 : Int32)) _ hc_ ?_
  clear st_
  cases h
  exact iq_G_ret (fun _ => rfl)
set_option maxRecDepth 100000 in
theorem zM_works_44_ok (l : Nat)  (x1 : Int32) (x2 : Int32) (I : iq_I) (J : iq_J) (X : iq_X)  {q : Int32} (h : zM_works_44 x1 x2 I = some q)  : iq_Gg 0 258 (44, [none, some (.int x1), some (.int x2)], [], (iq_sh l, I, J, X)) (.inl (some (.int q)), (iq_sh l, I, J, X)) := by
  unfold zM_works_44 at h
  refine iq_G_go (k := 1) (σ' := (45, [none, some (.int x1), some (.int x2)], [.int x1], (iq_sh l, I, J, X))) (fun _ => rfl) ?_
  rcases iq_ite h with ⟨hc_, h⟩ | ⟨hc_, h⟩
  · refine iq_G_pos (c := x1 = 0) (σ1 := (56, [none, some (.int x1), some (.int x2)], [], (iq_sh l, I, J, X))) (fun _ => rfl) hc_ ?_
    refine iq_G_go (k := 1) (σ' := (57, [none, some (.int x1), some (.int x2)], [.int (0 : Int32)], (iq_sh l, I, J, X))) (fun _ => rfl) ?_
    cases h
    exact iq_G_ret (fun _ => rfl)
  · refine iq_G_neg (c := x1 = 0) (σ1 := (48, [none, some (.int x1), some (.int x2)], [], (iq_sh l, I, J, X))) (fun _ => rfl) hc_ ?_
    refine iq_G_go (k := 1) (σ' := (49, [none, some (.int x1), some (.int x2)], [.int x2], (iq_sh l, I, J, X))) (fun _ => rfl) ?_
    rcases iq_ite h with ⟨hc_, h⟩ | ⟨hc_, h⟩
    · refine iq_G_pos (c := x2 = 0) (σ1 := (56, [none, some (.int x1), some (.int x2)], [], (iq_sh l, I, J, X))) (fun _ => rfl) hc_ ?_
      refine iq_G_go (k := 1) (σ' := (57, [none, some (.int x1), some (.int x2)], [.int (0 : Int32)], (iq_sh l, I, J, X))) (fun _ => rfl) ?_
      cases h
      exact iq_G_ret (fun _ => rfl)
    · refine iq_G_neg (c := x2 = 0) (σ1 := (52, [none, some (.int x1), some (.int x2)], [], (iq_sh l, I, J, X))) (fun _ => rfl) hc_ ?_
      refine iq_G_go (k := 2) (σ' := (57, [none, some (.int x1), some (.int x2)], [.int (1 : Int32)], (iq_sh l, I, J, X))) (fun _ => rfl) ?_
      cases h
      exact iq_G_ret (fun _ => rfl)
set_option maxRecDepth 100000 in
theorem zM_works_58_ok (l : Nat)  (x1 : Int32) (x2 : Int32) (I : iq_I) (J : iq_J) (X : iq_X)  {q : Int32} (h : zM_works_58 x1 x2 I = some q)  : iq_Gg 0 258 (58, [none, some (.int x1), some (.int x2)], [], (iq_sh l, I, J, X)) (.inl (some (.int q)), (iq_sh l, I, J, X)) := by
  unfold zM_works_58 at h
  refine iq_G_go (k := 1) (σ' := (59, [none, some (.int x1), some (.int x2)], [.int x1], (iq_sh l, I, J, X))) (fun _ => rfl) ?_
  rcases iq_ite h with ⟨hc_, h⟩ | ⟨hc_, h⟩
  · refine iq_G_pos (c := ¬ x1 = 0) (σ1 := (66, [none, some (.int x1), some (.int x2)], [], (iq_sh l, I, J, X))) (fun _ => rfl) hc_ ?_
    refine iq_G_go (k := 2) (σ' := (71, [none, some (.int x1), some (.int x2)], [.int (1 : Int32)], (iq_sh l, I, J, X))) (fun _ => rfl) ?_
    cases h
    exact iq_G_ret (fun _ => rfl)
  · refine iq_G_neg (c := ¬ x1 = 0) (σ1 := (62, [none, some (.int x1), some (.int x2)], [], (iq_sh l, I, J, X))) (fun _ => rfl) hc_ ?_
    refine iq_G_go (k := 1) (σ' := (63, [none, some (.int x1), some (.int x2)], [.int x2], (iq_sh l, I, J, X))) (fun _ => rfl) ?_
    rcases iq_ite h with ⟨hc_, h⟩ | ⟨hc_, h⟩
    · refine iq_G_pos (c := x2 = 0) (σ1 := (70, [none, some (.int x1), some (.int x2)], [], (iq_sh l, I, J, X))) (fun _ => rfl) hc_ ?_
      refine iq_G_go (k := 1) (σ' := (71, [none, some (.int x1), some (.int x2)], [.int (0 : Int32)], (iq_sh l, I, J, X))) (fun _ => rfl) ?_
      cases h
      exact iq_G_ret (fun _ => rfl)
    · refine iq_G_neg (c := x2 = 0) (σ1 := (66, [none, some (.int x1), some (.int x2)], [], (iq_sh l, I, J, X))) (fun _ => rfl) hc_ ?_
      refine iq_G_go (k := 2) (σ' := (71, [none, some (.int x1), some (.int x2)], [.int (1 : Int32)], (iq_sh l, I, J, X))) (fun _ => rfl) ?_
      cases h
      exact iq_G_ret (fun _ => rfl)
set_option maxRecDepth 100000 in
theorem zM_works_72_ok (l : Nat)  (x1 : Int32) (x2 : Int32) (I : iq_I) (J : iq_J) (X : iq_X)  {q : Int32} (h : zM_works_72 x1 x2 I = some q)  : iq_Gg 0 258 (72, [none, some (.int x1), some (.int x2)], [], (iq_sh l, I, J, X)) (.inl (some (.int q)), (iq_sh l, I, J, X)) := by
  unfold zM_works_72 at h
  refine iq_G_go (k := 2) (σ' := (74, [none, some (.int x1), some (.int x2)], [.int x2, .int x1], (iq_sh l, I, J, X))) (fun _ => rfl) ?_
  rcases iq_ite h with ⟨hc_, h⟩ | ⟨hc_, h⟩
  · refine iq_G_pos (c := x2 ≤ x1) (σ1 := (81, [none, some (.int x1), some (.int x2)], [], (iq_sh l, I, J, X))) (fun _ => rfl) hc_ ?_
    refine iq_G_go (k := 1) (σ' := (82, [none, some (.int x1), some (.int x2)], [.int (0 : Int32)], (iq_sh l, I, J, X))) (fun _ => rfl) ?_
    cases h
    exact iq_G_ret (fun _ => rfl)
  · refine iq_G_neg (c := x2 ≤ x1) (σ1 := (77, [none, some (.int x1), some (.int x2)], [], (iq_sh l, I, J, X))) (fun _ => rfl) hc_ ?_
    refine iq_G_go (k := 2) (σ' := (82, [none, some (.int x1), some (.int x2)], [.int (1 : Int32)], (iq_sh l, I, J, X))) (fun _ => rfl) ?_
    cases h
    exact iq_G_ret (fun _ => rfl)
set_option maxRecDepth 100000 in
theorem zM_works_83_ok (l : Nat)  (x1 : Int32) (x2 : Int32) (I : iq_I) (J : iq_J) (X : iq_X)  {q : Int32} (h : zM_works_83 x1 x2 I = some q)  : iq_Gg 0 258 (83, [none, some (.int x1), some (.int x2)], [], (iq_sh l, I, J, X)) (.inl (some (.int q)), (iq_sh l, I, J, X)) := by
  unfold zM_works_83 at h
  refine iq_G_go (k := 2) (σ' := (85, [none, some (.int x1), some (.int x2)], [.int x2, .int x1], (iq_sh l, I, J, X))) (fun _ => rfl) ?_
  rcases iq_ite h with ⟨hc_, h⟩ | ⟨hc_, h⟩
  · refine iq_G_pos (c := ¬ x1 = x2) (σ1 := (92, [none, some (.int x1), some (.int x2)], [], (iq_sh l, I, J, X))) (fun _ => rfl) hc_ ?_
    refine iq_G_go (k := 1) (σ' := (93, [none, some (.int x1), some (.int x2)], [.int (0 : Int32)], (iq_sh l, I, J, X))) (fun _ => rfl) ?_
    cases h
    exact iq_G_ret (fun _ => rfl)
  · refine iq_G_neg (c := ¬ x1 = x2) (σ1 := (88, [none, some (.int x1), some (.int x2)], [], (iq_sh l, I, J, X))) (fun _ => rfl) hc_ ?_
    refine iq_G_go (k := 2) (σ' := (93, [none, some (.int x1), some (.int x2)], [.int (1 : Int32)], (iq_sh l, I, J, X))) (fun _ => rfl) ?_
    cases h
    exact iq_G_ret (fun _ => rfl)
set_option maxRecDepth 100000 in
theorem zM_works_106_ok (l : Nat)  (x1 : Int32) (x2 : Int32) (I : iq_I) (J : iq_J) (X : iq_X)  {q : Int32} (h : zM_works_106 x1 x2 I = some q)  : iq_Gg 0 258 (106, [none, some (.int x1), some (.int x2)], [], (iq_sh l, I, J, X)) (.inl (some (.int q)), (iq_sh l, I, J, X)) := by
  unfold zM_works_106 at h
  refine iq_G_go (k := 1) (σ' := (107, [none, some (.int x1), some (.int x2)], [.int x2], (iq_sh l, I, J, X))) (fun _ => rfl) ?_
  rcases iq_ite h with ⟨hc_, h⟩ | ⟨hc_, h⟩
  · refine iq_G_pos (c := ¬ x2 = 0) (σ1 := (114, [none, some (.int x1), some (.int x2)], [], (iq_sh l, I, J, X))) (fun _ => rfl) hc_ ?_
    refine iq_G_go (k := 2) (σ' := (116, [none, some (.int x1), some (.int x2)], [.int x2, .int x1], (iq_sh l, I, J, X))) (fun _ => rfl) ?_
    obtain ⟨hc_, h⟩ := ir_nti h
    refine iq_G_neg (c := x2 = 0) (σ1 := (117, [none, some (.int x1), some (.int x2)], [.int (x1 / x2)], (iq_sh l, I, J, X))) (fun _ => rfl) hc_ ?_
    cases h
    exact iq_G_ret (fun _ => rfl)
  · refine iq_G_neg (c := ¬ x2 = 0) (σ1 := (110, [none, some (.int x1), some (.int x2)], [], (iq_sh l, I, J, X))) (fun _ => rfl) hc_ ?_
    refine iq_G_go (k := 2) (σ' := (117, [none, some (.int x1), some (.int x2)], [.int (0 : Int32)], (iq_sh l, I, J, X))) (fun _ => rfl) ?_
    cases h
    exact iq_G_ret (fun _ => rfl)
set_option maxRecDepth 100000 in
theorem zM_works_ok (l : Nat)  (x0 : Int32) (x1 : Int32) (x2 : Int32) (I : iq_I) (J : iq_J) (X : iq_X) {q : Int32} (h : zM_works x0 x1 x2 I = some q) : iq_Cc 1 258 [.int x0, .int x1, .int x2] (iq_sh l, I, J, X) (.inl (some (.int q)), (iq_sh l, I, J, X)) := by
  refine iq_Cc_of (L := [some (.int x0), some (.int x1), some (.int x2)]) rfl rfl ?_
  unfold zM_works at h
  refine iq_G_go (k := 1) (σ' := (1, [some (.int x0), some (.int x1), some (.int x2)], [.int x0], (iq_sh l, I, J, X))) (fun _ => rfl) ?_
  rcases iq_ite h with ⟨e0, h⟩ | ⟨n0, h⟩
  · refine iq_G_sw (σ' := (44, [some (.int x0), some (.int x1), some (.int x2)], [], (iq_sh l, I, J, X))) (fun _ => rfl) (by rw [e0]; rfl) ?_
    exact iq_G_fg (L := [none, some (.int x1), some (.int x2)]) (And.intro rfl (And.intro rfl trivial)) (zM_works_44_ok l x1 x2 I J X  h )
  rcases iq_ite h with ⟨e1, h⟩ | ⟨n1, h⟩
  · refine iq_G_sw (σ' := (58, [some (.int x0), some (.int x1), some (.int x2)], [], (iq_sh l, I, J, X))) (fun _ => rfl) (by rw [e1]; rfl) ?_
    exact iq_G_fg (L := [none, some (.int x1), some (.int x2)]) (And.intro rfl (And.intro rfl trivial)) (zM_works_58_ok l x1 x2 I J X  h )
  rcases iq_ite h with ⟨e2, h⟩ | ⟨n2, h⟩
  · refine iq_G_sw (σ' := (72, [some (.int x0), some (.int x1), some (.int x2)], [], (iq_sh l, I, J, X))) (fun _ => rfl) (by rw [e2]; rfl) ?_
    exact iq_G_fg (L := [none, some (.int x1), some (.int x2)]) (And.intro rfl (And.intro rfl trivial)) (zM_works_72_ok l x1 x2 I J X  h )
  rcases iq_ite h with ⟨e3, h⟩ | ⟨n3, h⟩
  · refine iq_G_sw (σ' := (83, [some (.int x0), some (.int x1), some (.int x2)], [], (iq_sh l, I, J, X))) (fun _ => rfl) (by rw [e3]; rfl) ?_
    exact iq_G_fg (L := [none, some (.int x1), some (.int x2)]) (And.intro rfl (And.intro rfl trivial)) (zM_works_83_ok l x1 x2 I J X  h )
  rcases iq_ite h with ⟨e4, h⟩ | ⟨n4, h⟩
  · refine iq_G_sw (σ' := (94, [some (.int x0), some (.int x1), some (.int x2)], [], (iq_sh l, I, J, X))) (fun _ => rfl) (by rw [e4]; rfl) ?_
    refine iq_G_go (k := 3) (σ' := (97, [some (.int x0), some (.int x1), some (.int x2)], [.int (x1 + x2)], (iq_sh l, I, J, X))) (fun _ => rfl) ?_
    cases h
    exact iq_G_ret (fun _ => rfl)
  rcases iq_ite h with ⟨e5, h⟩ | ⟨n5, h⟩
  · refine iq_G_sw (σ' := (98, [some (.int x0), some (.int x1), some (.int x2)], [], (iq_sh l, I, J, X))) (fun _ => rfl) (by rw [e5]; rfl) ?_
    refine iq_G_go (k := 3) (σ' := (101, [some (.int x0), some (.int x1), some (.int x2)], [.int (x1 - x2)], (iq_sh l, I, J, X))) (fun _ => rfl) ?_
    cases h
    exact iq_G_ret (fun _ => rfl)
  rcases iq_ite h with ⟨e6, h⟩ | ⟨n6, h⟩
  · refine iq_G_sw (σ' := (102, [some (.int x0), some (.int x1), some (.int x2)], [], (iq_sh l, I, J, X))) (fun _ => rfl) (by rw [e6]; rfl) ?_
    refine iq_G_go (k := 3) (σ' := (105, [some (.int x0), some (.int x1), some (.int x2)], [.int (x1 * x2)], (iq_sh l, I, J, X))) (fun _ => rfl) ?_
    cases h
    exact iq_G_ret (fun _ => rfl)
  refine iq_G_sw (σ' := (106, [some (.int x0), some (.int x1), some (.int x2)], [], (iq_sh l, I, J, X))) (fun _ => rfl) ((Eq.trans (ir_swn n0 rfl) (Eq.trans (ir_swn n1 rfl) (Eq.trans (ir_swn n2 rfl) (Eq.trans (ir_swn n3 rfl) (Eq.trans (ir_swn n4 rfl) (Eq.trans (ir_swn n5 rfl) (Eq.trans (ir_swn n6 rfl) rfl)))))))) ?_
  exact iq_G_fg (L := [none, some (.int x1), some (.int x2)]) (And.intro rfl (And.intro rfl trivial)) (zM_works_106_ok l x1 x2 I J X  h )
set_option maxRecDepth 100000 in
theorem zM_reckons_67_ok (l : Nat)  (x2 : Int32) (x3 : Int32) (s1 : Int32) (s2 : Int32) (I : iq_I) (J : iq_J) (X : iq_X)  {q : (Int32 × Int32 × iq_I) ⊕ (iq_I)} (h : zM_reckons_67 x2 x3 s1 s2 I = some q) (r : iq_R × iq_M) (hc : ∀ v, q = .inl v → iq_Gg 1 259 (4, [some (.ref 76), none, some (.int v.1), some (.int v.2.1), none], [], (iq_sh l, v.2.2, J, X)) r) (hx : ∀ w, q = .inr w → iq_Gg 1 259 (143, [some (.ref 76), none, none, none, none], [], (iq_sh l, w, J, X)) r) : iq_Gg 1 259 (67, [some (.ref 76), none, some (.int x2), some (.int x3), none], [.int s2, .int s1, .ref 102], (iq_sh l, I, J, X)) r := by
  unfold zM_reckons_67 at h
  obtain ⟨hc_, h⟩ := iq_itn h
  refine iq_G_pos (c := iq_in s1 950) (σ1 := (68, [some (.ref 76), none, some (.int x2), some (.int x3), none], [], (iq_sh l, (iq_upI I 102 (Int32.toNatClampNeg s1) s2), J, X))) (fun _ => rfl) hc_ ?_
  obtain ⟨I1, eI1, h⟩ := ir_letG h
  rw [← eI1]
  clear eI1
  refine iq_G_go (k := 4) (σ' := (4, [some (.ref 76), none, some (.int (x2 + (1 : Int32))), some (.int (x3 + (1 : Int32))), none], [], (iq_sh l, I1, J, X))) (fun _ => rfl) ?_
  cases h
  exact iq_G_fg (L := [some (.ref 76), none, some (.int (x2 + (1 : Int32))), some (.int (x3 + (1 : Int32))), none]) (And.intro rfl (And.intro rfl (And.intro rfl trivial))) (hc ((x2 + (1 : Int32)), (x3 + (1 : Int32)), I1) rfl)
set_option maxRecDepth 100000 in
theorem zM_reckons_36_ok (l : Nat)  (x2 : Int32) (x3 : Int32) (x4 : Int32) (I : iq_I) (J : iq_J) (X : iq_X)  {q : (Int32 × Int32 × iq_I) ⊕ (iq_I)} (h : zM_reckons_36 x2 x3 x4 I = some q) (r : iq_R × iq_M) (hc : ∀ v, q = .inl v → iq_Gg 1 259 (4, [some (.ref 76), none, some (.int v.1), some (.int v.2.1), none], [], (iq_sh l, v.2.2, J, X)) r) (hx : ∀ w, q = .inr w → iq_Gg 1 259 (143, [some (.ref 76), none, none, none, none], [], (iq_sh l, w, J, X)) r) : iq_Gg 1 259 (36, [some (.ref 76), none, some (.int x2), some (.int x3), some (.int x4)], [], (iq_sh l, I, J, X)) r := by
  unfold zM_reckons_36 at h
  refine iq_G_go (k := 5) (σ' := (44, [some (.ref 76), none, some (.int x2), some (.int x3), some (.int x4)], [.int (1 : Int32), .int x4, .int x2, .ref 102], (iq_sh l, I, J, X))) (fun _ => rfl) ?_
  rcases iq_ite h with ⟨hc_, h⟩ | ⟨hc_, h⟩
  · refine iq_G_pos (c := ¬ x4 = (1 : Int32)) (σ1 := (56, [some (.ref 76), none, some (.int x2), some (.int x3), some (.int x4)], [.int x2, .ref 102], (iq_sh l, I, J, X))) (fun _ => rfl) hc_ ?_
    refine iq_G_go (k := 5) (σ' := (65, [some (.ref 76), none, some (.int x2), some (.int x3), some (.int x4)], [.int x3, .ref 84, .ref 101, .int x2, .ref 102], (iq_sh l, I, J, X))) (fun _ => rfl) ?_
    obtain ⟨hc_, h⟩ := iq_itn h
    refine iq_G_pos (c := iq_in x3 4000) (σ1 := (66, [some (.ref 76), none, some (.int x2), some (.int x3), some (.int x4)], [.int (I 84 (Int32.toNatClampNeg x3)), .ref 101, .int x2, .ref 102], (iq_sh l, I, J, X))) (fun _ => rfl) hc_ ?_
    obtain ⟨hc_, h⟩ := iq_itn h
    refine iq_G_pos (c := iq_in (I 84 (Int32.toNatClampNeg x3)) 7) (σ1 := (67, [some (.ref 76), none, some (.int x2), some (.int x3), some (.int x4)], [.int (I 101 (Int32.toNatClampNeg (I 84 (Int32.toNatClampNeg x3)))), .int x2, .ref 102], (iq_sh l, I, J, X))) (fun _ => rfl) hc_ ?_
    exact iq_G_fg (L := [some (.ref 76), none, some (.int x2), some (.int x3), none]) (And.intro rfl (And.intro rfl (And.intro rfl trivial))) (zM_reckons_67_ok l x2 x3 x2 (I 101 (Int32.toNatClampNeg (I 84 (Int32.toNatClampNeg x3)))) I J X  h r hc hx)
  · refine iq_G_neg (c := ¬ x4 = (1 : Int32)) (σ1 := (47, [some (.ref 76), none, some (.int x2), some (.int x3), some (.int x4)], [.int x2, .ref 102], (iq_sh l, I, J, X))) (fun _ => rfl) hc_ ?_
    refine iq_G_go (k := 3) (σ' := (52, [some (.ref 76), none, some (.int x2), some (.int x3), some (.int x4)], [.int x3, .ref 84, .int x2, .ref 102], (iq_sh l, I, J, X))) (fun _ => rfl) ?_
    obtain ⟨hc_, h⟩ := iq_itn h
    refine iq_G_pos (c := iq_in x3 4000) (σ1 := (53, [some (.ref 76), none, some (.int x2), some (.int x3), some (.int x4)], [.int (I 84 (Int32.toNatClampNeg x3)), .int x2, .ref 102], (iq_sh l, I, J, X))) (fun _ => rfl) hc_ ?_
    refine iq_G_go (k := 1) (σ' := (67, [some (.ref 76), none, some (.int x2), some (.int x3), some (.int x4)], [.int (I 84 (Int32.toNatClampNeg x3)), .int x2, .ref 102], (iq_sh l, I, J, X))) (fun _ => rfl) ?_
    exact iq_G_fg (L := [some (.ref 76), none, some (.int x2), some (.int x3), none]) (And.intro rfl (And.intro rfl (And.intro rfl trivial))) (zM_reckons_67_ok l x2 x3 x2 (I 84 (Int32.toNatClampNeg x3)) I J X  h r hc hx)
set_option maxRecDepth 100000 in
theorem zM_reckons_106_ok (l : Nat)  (x2 : Int32) (x3 : Int32) (s1 : Int32) (s2 : Int32) (I : iq_I) (J : iq_J) (X : iq_X)  {q : (Int32 × Int32 × iq_I) ⊕ (iq_I)} (h : zM_reckons_106 x2 x3 s1 s2 I = some q) (r : iq_R × iq_M) (hc : ∀ v, q = .inl v → iq_Gg 1 259 (4, [some (.ref 76), none, some (.int v.1), some (.int v.2.1), none], [], (iq_sh l, v.2.2, J, X)) r) (hx : ∀ w, q = .inr w → iq_Gg 1 259 (143, [some (.ref 76), none, none, none, none], [], (iq_sh l, w, J, X)) r) : iq_Gg 1 259 (106, [some (.ref 76), none, some (.int x2), some (.int x3), none], [.int s2, .int s1, .ref 102], (iq_sh l, I, J, X)) r := by
  unfold zM_reckons_106 at h
  obtain ⟨hc_, h⟩ := iq_itn h
  refine iq_G_pos (c := iq_in s1 950) (σ1 := (107, [some (.ref 76), none, some (.int x2), some (.int x3), none], [], (iq_sh l, (iq_upI I 102 (Int32.toNatClampNeg s1) s2), J, X))) (fun _ => rfl) hc_ ?_
  obtain ⟨I4, eI4, h⟩ := ir_letG h
  rw [← eI4]
  clear eI4
  refine iq_G_go (k := 2) (σ' := (4, [some (.ref 76), none, some (.int x2), some (.int x3), none], [], (iq_sh l, I4, J, X))) (fun _ => rfl) ?_
  cases h
  exact iq_G_fg (L := [some (.ref 76), none, some (.int x2), some (.int x3), none]) (And.intro rfl (And.intro rfl (And.intro rfl trivial))) (hc (x2, x3, I4) rfl)
set_option maxRecDepth 100000 in
theorem zM_reckons_l4_bok (l : Nat)   (J : iq_J) (X : iq_X) (x2 : Int32) (x3 : Int32) (I : iq_I) {q : (Int32 × Int32 × iq_I) ⊕ (iq_I)} (h : zM_reckons_l4_b  x2 x3 I = some q) (r : iq_R × iq_M) (hc : ∀ v, q = .inl v → iq_Gg 1 259 (4, [some (.ref 76), none, some (.int v.1), some (.int v.2.1), none], [], (iq_sh l, v.2.2, J, X)) r) (hx : ∀ w, q = .inr w → iq_Gg 1 259 (143, [some (.ref 76), none, none, none, none], [], (iq_sh l, w, J, X)) r) : iq_Gg 1 259 (4, [some (.ref 76), none, some (.int x2), some (.int x3), none], [], (iq_sh l, I, J, X)) r := by
  unfold zM_reckons_l4_b at h
  refine iq_G_go (k := 3) (σ' := (9, [some (.ref 76), none, some (.int x2), some (.int x3), none], [.int x3, .ref 84], (iq_sh l, I, J, X))) (fun _ => rfl) ?_
  obtain ⟨hc_, h⟩ := iq_itn h
  refine iq_G_pos (c := iq_in x3 4000) (σ1 := (10, [some (.ref 76), none, some (.int x2), some (.int x3), none], [.int (I 84 (Int32.toNatClampNeg x3))], (iq_sh l, I, J, X))) (fun _ => rfl) hc_ ?_
  rcases iq_ite h with ⟨hc_, h⟩ | ⟨hc_, h⟩
  · refine iq_G_pos (c := (I 84 (Int32.toNatClampNeg x3)) = 0) (σ1 := (143, [some (.ref 76), none, some (.int x2), some (.int x3), none], [], (iq_sh l, I, J, X))) (fun _ => rfl) hc_ ?_
    cases h
    exact iq_G_fg (L := [some (.ref 76), none, none, none, none]) (And.intro rfl trivial) (hx I rfl)
  · refine iq_G_neg (c := (I 84 (Int32.toNatClampNeg x3)) = 0) (σ1 := (13, [some (.ref 76), none, some (.int x2), some (.int x3), none], [], (iq_sh l, I, J, X))) (fun _ => rfl) hc_ ?_
    refine iq_G_go (k := 3) (σ' := (18, [some (.ref 76), none, some (.int x2), some (.int x3), none], [.int x3, .ref 84], (iq_sh l, I, J, X))) (fun _ => rfl) ?_
    obtain ⟨hc_, h⟩ := iq_itn h
    refine iq_G_pos (c := iq_in x3 4000) (σ1 := (19, [some (.ref 76), none, some (.int x2), some (.int x3), none], [.int (I 84 (Int32.toNatClampNeg x3))], (iq_sh l, I, J, X))) (fun _ => rfl) hc_ ?_
    refine iq_G_go (k := 4) (σ' := (27, [some (.ref 76), none, some (.int x2), some (.int (x3 + (1 : Int32))), some (.int (I 84 (Int32.toNatClampNeg x3)))], [.int (1 : Int32), .int (I 84 (Int32.toNatClampNeg x3))], (iq_sh l, I, J, X))) (fun _ => rfl) ?_
    rcases iq_ite h with ⟨hc_, h⟩ | ⟨hc_, h⟩
    · refine iq_G_pos (c := (I 84 (Int32.toNatClampNeg x3)) = (1 : Int32)) (σ1 := (36, [some (.ref 76), none, some (.int x2), some (.int (x3 + (1 : Int32))), some (.int (I 84 (Int32.toNatClampNeg x3)))], [], (iq_sh l, I, J, X))) (fun _ => rfl) hc_ ?_
      exact iq_G_fg (L := [some (.ref 76), none, some (.int x2), some (.int (x3 + (1 : Int32))), some (.int (I 84 (Int32.toNatClampNeg x3)))]) (And.intro rfl (And.intro rfl (And.intro rfl (And.intro rfl trivial)))) (zM_reckons_36_ok l x2 (x3 + (1 : Int32)) (I 84 (Int32.toNatClampNeg x3)) I J X  h r hc hx)
    · refine iq_G_neg (c := (I 84 (Int32.toNatClampNeg x3)) = (1 : Int32)) (σ1 := (30, [some (.ref 76), none, some (.int x2), some (.int (x3 + (1 : Int32))), some (.int (I 84 (Int32.toNatClampNeg x3)))], [], (iq_sh l, I, J, X))) (fun _ => rfl) hc_ ?_
      refine iq_G_go (k := 2) (σ' := (33, [some (.ref 76), none, some (.int x2), some (.int (x3 + (1 : Int32))), some (.int (I 84 (Int32.toNatClampNeg x3)))], [.int (2 : Int32), .int (I 84 (Int32.toNatClampNeg x3))], (iq_sh l, I, J, X))) (fun _ => rfl) ?_
      rcases iq_ite h with ⟨hc_, h⟩ | ⟨hc_, h⟩
      · refine iq_G_pos (c := ¬ (I 84 (Int32.toNatClampNeg x3)) = (2 : Int32)) (σ1 := (77, [some (.ref 76), none, some (.int x2), some (.int (x3 + (1 : Int32))), some (.int (I 84 (Int32.toNatClampNeg x3)))], [], (iq_sh l, I, J, X))) (fun _ => rfl) hc_ ?_
        refine iq_G_go (k := 2) (σ' := (80, [some (.ref 76), none, some (.int x2), some (.int (x3 + (1 : Int32))), some (.int (I 84 (Int32.toNatClampNeg x3)))], [.int (3 : Int32), .int (I 84 (Int32.toNatClampNeg x3))], (iq_sh l, I, J, X))) (fun _ => rfl) ?_
        rcases iq_ite h with ⟨hc_, h⟩ | ⟨hc_, h⟩
        · refine iq_G_pos (c := ¬ (I 84 (Int32.toNatClampNeg x3)) = (3 : Int32)) (σ1 := (110, [some (.ref 76), none, some (.int x2), some (.int (x3 + (1 : Int32))), some (.int (I 84 (Int32.toNatClampNeg x3)))], [], (iq_sh l, I, J, X))) (fun _ => rfl) hc_ ?_
          refine iq_G_go (k := 12) (σ' := (129, [some (.ref 76), none, some (.int (x2 + (-1 : Int32))), some (.int (x3 + (1 : Int32))), some (.int (I 84 (Int32.toNatClampNeg x3)))], [.int ((x2 + (-1 : Int32)) - (1 : Int32)), .ref 102, .int (I 84 (Int32.toNatClampNeg x3)), .int ((x2 + (-1 : Int32)) - (1 : Int32)), .ref 102], (iq_sh l, I, J, X))) (fun _ => rfl) ?_
          obtain ⟨hc_, h⟩ := iq_itn h
          have st_ : ∀ (z_0 : Int32) (r_ : iq_R × iq_M), iq_in z_0 950 → iq_Gg 1 259 (130, [some (.ref 76), none, some (.int (x2 + (-1 : Int32))), some (.int (x3 + (1 : Int32))), some (.int (I 84 (Int32.toNatClampNeg x3)))], [.int (I 102 (Int32.toNatClampNeg z_0)), .int (I 84 (Int32.toNatClampNeg x3)), .int z_0, .ref 102], (iq_sh l, I, J, X)) r_ → iq_Gg 1 259 (129, [some (.ref 76), none, some (.int (x2 + (-1 : Int32))), some (.int (x3 + (1 : Int32))), some (.int (I 84 (Int32.toNatClampNeg x3)))], [.int z_0, .ref 102, .int (I 84 (Int32.toNatClampNeg x3)), .int z_0, .ref 102], (iq_sh l, I, J, X)) r_ := fun z_0 r_ hc_ hg_ => iq_G_pos (c := iq_in z_0 950) (σ1 := (130, [some (.ref 76), none, some (.int (x2 + (-1 : Int32))), some (.int (x3 + (1 : Int32))), some (.int (I 84 (Int32.toNatClampNeg x3)))], [.int (I 102 (Int32.toNatClampNeg z_0)), .int (I 84 (Int32.toNatClampNeg x3)), .int z_0, .ref 102], (iq_sh l, I, J, X))) (fun _ => rfl) hc_ hg_
          refine st_ ((x2 + (-1 : Int32)) - (1 : Int32)) _ hc_ ?_
          clear st_
          refine iq_G_go (k := 3) (σ' := (135, [some (.ref 76), none, some (.int (x2 + (-1 : Int32))), some (.int (x3 + (1 : Int32))), some (.int (I 84 (Int32.toNatClampNeg x3)))], [.int (x2 + (-1 : Int32)), .ref 102, .int (I 102 (Int32.toNatClampNeg ((x2 + (-1 : Int32)) - (1 : Int32)))), .int (I 84 (Int32.toNatClampNeg x3)), .int ((x2 + (-1 : Int32)) - (1 : Int32)), .ref 102], (iq_sh l, I, J, X))) (fun _ => rfl) ?_
          obtain ⟨hc_, h⟩ := iq_itn h
          have st_ : ∀ (z_0 : Int32) (r_ : iq_R × iq_M), iq_in z_0 950 → iq_Gg 1 259 (136, [some (.ref 76), none, some (.int z_0), some (.int (x3 + (1 : Int32))), some (.int (I 84 (Int32.toNatClampNeg x3)))], [.int (I 102 (Int32.toNatClampNeg z_0)), .int (I 102 (Int32.toNatClampNeg (z_0 - (1 : Int32)))), .int (I 84 (Int32.toNatClampNeg x3)), .int (z_0 - (1 : Int32)), .ref 102], (iq_sh l, I, J, X)) r_ → iq_Gg 1 259 (135, [some (.ref 76), none, some (.int z_0), some (.int (x3 + (1 : Int32))), some (.int (I 84 (Int32.toNatClampNeg x3)))], [.int z_0, .ref 102, .int (I 102 (Int32.toNatClampNeg (z_0 - (1 : Int32)))), .int (I 84 (Int32.toNatClampNeg x3)), .int (z_0 - (1 : Int32)), .ref 102], (iq_sh l, I, J, X)) r_ := fun z_0 r_ hc_ hg_ => iq_G_pos (c := iq_in z_0 950) (σ1 := (136, [some (.ref 76), none, some (.int z_0), some (.int (x3 + (1 : Int32))), some (.int (I 84 (Int32.toNatClampNeg x3)))], [.int (I 102 (Int32.toNatClampNeg z_0)), .int (I 102 (Int32.toNatClampNeg (z_0 - (1 : Int32)))), .int (I 84 (Int32.toNatClampNeg x3)), .int (z_0 - (1 : Int32)), .ref 102], (iq_sh l, I, J, X))) (fun _ => rfl) hc_ hg_
          refine st_ (x2 + (-1 : Int32)) _ hc_ ?_
          clear st_
          obtain ⟨q2, hq2, h⟩ := iq_bnd h
          refine iq_G_call (σ' := (139, [some (.ref 76), none, some (.int (x2 + (-1 : Int32))), some (.int (x3 + (1 : Int32))), some (.int (I 84 (Int32.toNatClampNeg x3)))], [.int q2, .int ((x2 + (-1 : Int32)) - (1 : Int32)), .ref 102], (iq_sh l, I, J, X))) (fun _ => rfl) (zM_works_ok l (I 84 (Int32.toNatClampNeg x3)) (I 102 (Int32.toNatClampNeg ((x2 + (-1 : Int32)) - (1 : Int32)))) (I 102 (Int32.toNatClampNeg (x2 + (-1 : Int32)))) I J X hq2) rfl rfl ?_
          obtain ⟨hc_, h⟩ := iq_itn h
          have st_ : ∀ (z_0 : Int32) (r_ : iq_R × iq_M), iq_in z_0 950 → iq_Gg 1 259 (140, [some (.ref 76), none, some (.int (x2 + (-1 : Int32))), some (.int (x3 + (1 : Int32))), some (.int (I 84 (Int32.toNatClampNeg x3)))], [], (iq_sh l, (iq_upI I 102 (Int32.toNatClampNeg z_0) q2), J, X)) r_ → iq_Gg 1 259 (139, [some (.ref 76), none, some (.int (x2 + (-1 : Int32))), some (.int (x3 + (1 : Int32))), some (.int (I 84 (Int32.toNatClampNeg x3)))], [.int q2, .int z_0, .ref 102], (iq_sh l, I, J, X)) r_ := fun z_0 r_ hc_ hg_ => iq_G_pos (c := iq_in z_0 950) (σ1 := (140, [some (.ref 76), none, some (.int (x2 + (-1 : Int32))), some (.int (x3 + (1 : Int32))), some (.int (I 84 (Int32.toNatClampNeg x3)))], [], (iq_sh l, (iq_upI I 102 (Int32.toNatClampNeg z_0) q2), J, X))) (fun _ => rfl) hc_ hg_
          refine st_ ((x2 + (-1 : Int32)) - (1 : Int32)) _ hc_ ?_
          clear st_
          obtain ⟨I3, eI3, h⟩ := ir_letG h
          rw [← eI3]
          clear eI3
          refine iq_G_go (k := 1) (σ' := (4, [some (.ref 76), none, some (.int (x2 + (-1 : Int32))), some (.int (x3 + (1 : Int32))), some (.int (I 84 (Int32.toNatClampNeg x3)))], [], (iq_sh l, I3, J, X))) (fun _ => rfl) ?_
          cases h
          exact iq_G_fg (L := [some (.ref 76), none, some (.int (x2 + (-1 : Int32))), some (.int (x3 + (1 : Int32))), none]) (And.intro rfl (And.intro rfl (And.intro rfl trivial))) (hc ((x2 + (-1 : Int32)), (x3 + (1 : Int32)), I3) rfl)
        · refine iq_G_neg (c := ¬ (I 84 (Int32.toNatClampNeg x3)) = (3 : Int32)) (σ1 := (83, [some (.ref 76), none, some (.int x2), some (.int (x3 + (1 : Int32))), some (.int (I 84 (Int32.toNatClampNeg x3)))], [], (iq_sh l, I, J, X))) (fun _ => rfl) hc_ ?_
          refine iq_G_go (k := 10) (σ' := (97, [some (.ref 76), none, some (.int x2), some (.int (x3 + (1 : Int32))), some (.int (I 84 (Int32.toNatClampNeg x3)))], [.int (x2 - (1 : Int32)), .ref 102, .int (x2 - (1 : Int32)), .ref 102], (iq_sh l, I, J, X))) (fun _ => rfl) ?_
          obtain ⟨hc_, h⟩ := iq_itn h
          have st_ : ∀ (z_0 : Int32) (r_ : iq_R × iq_M), iq_in z_0 950 → iq_Gg 1 259 (98, [some (.ref 76), none, some (.int x2), some (.int (x3 + (1 : Int32))), some (.int (I 84 (Int32.toNatClampNeg x3)))], [.int (I 102 (Int32.toNatClampNeg z_0)), .int z_0, .ref 102], (iq_sh l, I, J, X)) r_ → iq_Gg 1 259 (97, [some (.ref 76), none, some (.int x2), some (.int (x3 + (1 : Int32))), some (.int (I 84 (Int32.toNatClampNeg x3)))], [.int z_0, .ref 102, .int z_0, .ref 102], (iq_sh l, I, J, X)) r_ := fun z_0 r_ hc_ hg_ => iq_G_pos (c := iq_in z_0 950) (σ1 := (98, [some (.ref 76), none, some (.int x2), some (.int (x3 + (1 : Int32))), some (.int (I 84 (Int32.toNatClampNeg x3)))], [.int (I 102 (Int32.toNatClampNeg z_0)), .int z_0, .ref 102], (iq_sh l, I, J, X))) (fun _ => rfl) hc_ hg_
          refine st_ (x2 - (1 : Int32)) _ hc_ ?_
          clear st_
          rcases iq_ite h with ⟨hc_, h⟩ | ⟨hc_, h⟩
          · have st_ : ∀ (z_0 : Int32) (r_ : iq_R × iq_M), ¬ z_0 = 0 → iq_Gg 1 259 (105, [some (.ref 76), none, some (.int x2), some (.int (x3 + (1 : Int32))), some (.int (I 84 (Int32.toNatClampNeg x3)))], [.int (x2 - (1 : Int32)), .ref 102], (iq_sh l, I, J, X)) r_ → iq_Gg 1 259 (98, [some (.ref 76), none, some (.int x2), some (.int (x3 + (1 : Int32))), some (.int (I 84 (Int32.toNatClampNeg x3)))], [.int z_0, .int (x2 - (1 : Int32)), .ref 102], (iq_sh l, I, J, X)) r_ := fun z_0 r_ hc_ hg_ => iq_G_pos (c := ¬ z_0 = 0) (σ1 := (105, [some (.ref 76), none, some (.int x2), some (.int (x3 + (1 : Int32))), some (.int (I 84 (Int32.toNatClampNeg x3)))], [.int (x2 - (1 : Int32)), .ref 102], (iq_sh l, I, J, X))) (fun _ => rfl) hc_ hg_
            refine st_ (I 102 (Int32.toNatClampNeg (x2 - (1 : Int32)))) _ hc_ ?_
            clear st_
            refine iq_G_go (k := 1) (σ' := (106, [some (.ref 76), none, some (.int x2), some (.int (x3 + (1 : Int32))), some (.int (I 84 (Int32.toNatClampNeg x3)))], [.int (0 : Int32), .int (x2 - (1 : Int32)), .ref 102], (iq_sh l, I, J, X))) (fun _ => rfl) ?_
            exact iq_G_fg (L := [some (.ref 76), none, some (.int x2), some (.int (x3 + (1 : Int32))), none]) (And.intro rfl (And.intro rfl (And.intro rfl trivial))) (zM_reckons_106_ok l x2 (x3 + (1 : Int32)) (x2 - (1 : Int32)) (0 : Int32) I J X  h r hc hx)
          · have st_ : ∀ (z_0 : Int32) (r_ : iq_R × iq_M), ¬ (¬ z_0 = 0) → iq_Gg 1 259 (101, [some (.ref 76), none, some (.int x2), some (.int (x3 + (1 : Int32))), some (.int (I 84 (Int32.toNatClampNeg x3)))], [.int (x2 - (1 : Int32)), .ref 102], (iq_sh l, I, J, X)) r_ → iq_Gg 1 259 (98, [some (.ref 76), none, some (.int x2), some (.int (x3 + (1 : Int32))), some (.int (I 84 (Int32.toNatClampNeg x3)))], [.int z_0, .int (x2 - (1 : Int32)), .ref 102], (iq_sh l, I, J, X)) r_ := fun z_0 r_ hc_ hg_ => iq_G_neg (c := ¬ z_0 = 0) (σ1 := (101, [some (.ref 76), none, some (.int x2), some (.int (x3 + (1 : Int32))), some (.int (I 84 (Int32.toNatClampNeg x3)))], [.int (x2 - (1 : Int32)), .ref 102], (iq_sh l, I, J, X))) (fun _ => rfl) hc_ hg_
            refine st_ (I 102 (Int32.toNatClampNeg (x2 - (1 : Int32)))) _ hc_ ?_
            clear st_
            refine iq_G_go (k := 2) (σ' := (106, [some (.ref 76), none, some (.int x2), some (.int (x3 + (1 : Int32))), some (.int (I 84 (Int32.toNatClampNeg x3)))], [.int (1 : Int32), .int (x2 - (1 : Int32)), .ref 102], (iq_sh l, I, J, X))) (fun _ => rfl) ?_
            exact iq_G_fg (L := [some (.ref 76), none, some (.int x2), some (.int (x3 + (1 : Int32))), none]) (And.intro rfl (And.intro rfl (And.intro rfl trivial))) (zM_reckons_106_ok l x2 (x3 + (1 : Int32)) (x2 - (1 : Int32)) (1 : Int32) I J X  h r hc hx)
      · refine iq_G_neg (c := ¬ (I 84 (Int32.toNatClampNeg x3)) = (2 : Int32)) (σ1 := (36, [some (.ref 76), none, some (.int x2), some (.int (x3 + (1 : Int32))), some (.int (I 84 (Int32.toNatClampNeg x3)))], [], (iq_sh l, I, J, X))) (fun _ => rfl) hc_ ?_
        exact iq_G_fg (L := [some (.ref 76), none, some (.int x2), some (.int (x3 + (1 : Int32))), some (.int (I 84 (Int32.toNatClampNeg x3)))]) (And.intro rfl (And.intro rfl (And.intro rfl (And.intro rfl trivial)))) (zM_reckons_36_ok l x2 (x3 + (1 : Int32)) (I 84 (Int32.toNatClampNeg x3)) I J X  h r hc hx)
set_option maxRecDepth 100000 in
theorem zM_reckons_l4_ok (l : Nat)   (J : iq_J) (X : iq_X) {n : Nat} {v : Int32 × Int32 × iq_I} {w : iq_I} (h : zM_reckons_l4  n v = some w) (r : iq_R × iq_M) (hq : iq_Gg 1 259 (143, [some (.ref 76), none, none, none, none], [], (iq_sh l, w, J, X)) r) : iq_Gg 1 259 (4, [some (.ref 76), none, some (.int v.1), some (.int v.2.1), none], [], (iq_sh l, v.2.2, J, X)) r :=
  iq_lp_ok (σ := fun v => (4, [some (.ref 76), none, some (.int v.1), some (.int v.2.1), none], [], (iq_sh l, v.2.2, J, X))) (Q := fun w r => iq_Gg 1 259 (143, [some (.ref 76), none, none, none, none], [], (iq_sh l, w, J, X)) r) (fun v q hv r h1 h2 => zM_reckons_l4_bok l J X v.1 v.2.1 v.2.2 hv r h1 h2) h r hq
set_option maxRecDepth 100000 in
theorem zM_reckons_ok (l : Nat)  (x1 : Int32) (I : iq_I) (J : iq_J) (X : iq_X) {q : Int32 × iq_I} (h : zM_reckons x1 I = some q) : iq_Cc 2 259 [.ref 76, .int x1] (iq_sh l, I, J, X) (.inl (some (.int q.1)), (iq_sh l, q.2, J, X)) := by
  refine iq_Cc_of (L := [some (.ref 76), some (.int x1), none, none, none]) rfl rfl ?_
  unfold zM_reckons at h
  refine iq_G_go (k := 4) (σ' := (4, [some (.ref 76), some (.int x1), some (.int (0 : Int32)), some (.int x1), none], [], (iq_sh l, I, J, X))) (fun _ => rfl) ?_
  obtain ⟨w5, hw5, h⟩ := iq_bnd h
  refine iq_G_fg (L := [some (.ref 76), none, some (.int (0 : Int32)), some (.int x1), none]) (And.intro rfl (And.intro rfl (And.intro rfl trivial))) ?_
  refine zM_reckons_l4_ok l J X hw5 _ ?_
  show iq_Gg 1 259 (143, [some (.ref 76), none, none, none, none], [], (iq_sh l, w5, J, X)) _
  refine iq_G_go (k := 3) (σ' := (148, [some (.ref 76), none, none, none, none], [.int (0 : Int32), .ref 102], (iq_sh l, w5, J, X))) (fun _ => rfl) ?_
  refine iq_G_go (k := 1) (σ' := (149, [some (.ref 76), none, none, none, none], [.int (w5 102 0)], (iq_sh l, w5, J, X))) (fun _ => rfl) ?_
  cases h
  exact iq_G_ret (fun _ => rfl)
set_option maxRecDepth 100000 in
theorem zM_rule_76_98_l6_bok (l : Nat)  (x1 : Int32) (x3 : Int32) (x4 : Int32) (I : iq_I) (J : iq_J) (X : iq_X) (x5 : Int32) (x6 : Int32)  {q : (Int32 × Int32) ⊕ (Int32)} (h : zM_rule_76_98_l6_b x1 x3 x4 I x5 x6 = some q) (r : iq_R × iq_M) (hc : ∀ v, q = .inl v → iq_Gg 2 261 (6, [some (.ref 76), some (.int x1), some (.ref 98), some (.int x3), some (.int x4), some (.int v.1), some (.int v.2)], [], (iq_sh l, I, J, X)) r) (hx : ∀ w, q = .inr w → iq_Gg 2 261 (43, [some (.ref 76), some (.int x1), some (.ref 98), some (.int x3), some (.int x4), some (.int w), none], [], (iq_sh l, I, J, X)) r) : iq_Gg 2 261 (6, [some (.ref 76), some (.int x1), some (.ref 98), some (.int x3), some (.int x4), some (.int x5), some (.int x6)], [], (iq_sh l, I, J, X)) r := by
  unfold zM_rule_76_98_l6_b at h
  refine iq_G_go (k := 3) (σ' := (10, [some (.ref 76), some (.int x1), some (.ref 98), some (.int x3), some (.int x4), some (.int x5), some (.int x6)], [.int x3, .ref 98, .int x6], (iq_sh l, I, J, X))) (fun _ => rfl) ?_
  obtain ⟨hc_, h⟩ := iq_itn h
  refine iq_G_pos (c := iq_in x3 206) (σ1 := (11, [some (.ref 76), some (.int x1), some (.ref 98), some (.int x3), some (.int x4), some (.int x5), some (.int x6)], [.int (I 98 (Int32.toNatClampNeg x3)), .int x6], (iq_sh l, I, J, X))) (fun _ => rfl) hc_ ?_
  rcases iq_ite h with ⟨hc_, h⟩ | ⟨hc_, h⟩
  · refine iq_G_pos (c := (I 98 (Int32.toNatClampNeg x3)) ≤ x6) (σ1 := (43, [some (.ref 76), some (.int x1), some (.ref 98), some (.int x3), some (.int x4), some (.int x5), some (.int x6)], [], (iq_sh l, I, J, X))) (fun _ => rfl) hc_ ?_
    cases h
    exact iq_G_fg (L := [some (.ref 76), some (.int x1), some (.ref 98), some (.int x3), some (.int x4), some (.int x5), none]) (And.intro rfl (And.intro rfl (And.intro rfl (And.intro rfl (And.intro rfl (And.intro rfl trivial)))))) (hx x5 rfl)
  · refine iq_G_neg (c := (I 98 (Int32.toNatClampNeg x3)) ≤ x6) (σ1 := (14, [some (.ref 76), some (.int x1), some (.ref 98), some (.int x3), some (.int x4), some (.int x5), some (.int x6)], [], (iq_sh l, I, J, X))) (fun _ => rfl) hc_ ?_
    refine iq_G_go (k := 5) (σ' := (21, [some (.ref 76), some (.int x1), some (.ref 98), some (.int x3), some (.int x4), some (.int x5), some (.int x6)], [.int x6, .int x3, .ref 98, .ref 76, .int x5], (iq_sh l, I, J, X))) (fun _ => rfl) ?_
    obtain ⟨q1, hq1, h⟩ := iq_bnd h
    refine iq_G_call (σ' := (24, [some (.ref 76), some (.int x1), some (.ref 98), some (.int x3), some (.int x4), some (.int x5), some (.int x6)], [.int q1, .int x5], (iq_sh l, I, J, X))) (fun _ => rfl) (zM_wordAt_76_98_ok l x3 x6 I J X hq1) rfl rfl ?_
    refine iq_G_go (k := 1) (σ' := (26, [some (.ref 76), some (.int x1), some (.ref 98), some (.int x3), some (.int x4), some (.int x5), some (.int x6)], [.int x4, .int q1, .int x5], (iq_sh l, I, J, X))) (fun _ => rfl) ?_
    rcases iq_ite h with ⟨hc_, h⟩ | ⟨hc_, h⟩
    · refine iq_G_pos (c := ¬ q1 = x4) (σ1 := (33, [some (.ref 76), some (.int x1), some (.ref 98), some (.int x3), some (.int x4), some (.int x5), some (.int x6)], [.int x5], (iq_sh l, I, J, X))) (fun _ => rfl) hc_ ?_
      refine iq_G_go (k := 5) (σ' := (6, [some (.ref 76), some (.int x1), some (.ref 98), some (.int x3), some (.int x4), some (.int (x5 + (0 : Int32))), some (.int (x6 + (1 : Int32)))], [], (iq_sh l, I, J, X))) (fun _ => rfl) ?_
      cases h
      exact iq_G_fg (L := [some (.ref 76), some (.int x1), some (.ref 98), some (.int x3), some (.int x4), some (.int (x5 + (0 : Int32))), some (.int (x6 + (1 : Int32)))]) (And.intro rfl (And.intro rfl (And.intro rfl (And.intro rfl (And.intro rfl (And.intro rfl (And.intro rfl trivial))))))) (hc ((x5 + (0 : Int32)), (x6 + (1 : Int32))) rfl)
    · refine iq_G_neg (c := ¬ q1 = x4) (σ1 := (29, [some (.ref 76), some (.int x1), some (.ref 98), some (.int x3), some (.int x4), some (.int x5), some (.int x6)], [.int x5], (iq_sh l, I, J, X))) (fun _ => rfl) hc_ ?_
      refine iq_G_go (k := 6) (σ' := (6, [some (.ref 76), some (.int x1), some (.ref 98), some (.int x3), some (.int x4), some (.int (x5 + (1 : Int32))), some (.int (x6 + (1 : Int32)))], [], (iq_sh l, I, J, X))) (fun _ => rfl) ?_
      cases h
      exact iq_G_fg (L := [some (.ref 76), some (.int x1), some (.ref 98), some (.int x3), some (.int x4), some (.int (x5 + (1 : Int32))), some (.int (x6 + (1 : Int32)))]) (And.intro rfl (And.intro rfl (And.intro rfl (And.intro rfl (And.intro rfl (And.intro rfl (And.intro rfl trivial))))))) (hc ((x5 + (1 : Int32)), (x6 + (1 : Int32))) rfl)
set_option maxRecDepth 100000 in
theorem zM_rule_76_98_l6_ok (l : Nat)  (x1 : Int32) (x3 : Int32) (x4 : Int32) (I : iq_I) (J : iq_J) (X : iq_X) {n : Nat} {v : Int32 × Int32} {w : Int32} (h : zM_rule_76_98_l6 x1 x3 x4 I n v = some w) (r : iq_R × iq_M) (hq : iq_Gg 2 261 (43, [some (.ref 76), some (.int x1), some (.ref 98), some (.int x3), some (.int x4), some (.int w), none], [], (iq_sh l, I, J, X)) r) : iq_Gg 2 261 (6, [some (.ref 76), some (.int x1), some (.ref 98), some (.int x3), some (.int x4), some (.int v.1), some (.int v.2)], [], (iq_sh l, I, J, X)) r :=
  iq_lp_ok (σ := fun v => (6, [some (.ref 76), some (.int x1), some (.ref 98), some (.int x3), some (.int x4), some (.int v.1), some (.int v.2)], [], (iq_sh l, I, J, X))) (Q := fun w r => iq_Gg 2 261 (43, [some (.ref 76), some (.int x1), some (.ref 98), some (.int x3), some (.int x4), some (.int w), none], [], (iq_sh l, I, J, X)) r) (fun v q hv r h1 h2 => zM_rule_76_98_l6_bok l x1 x3 x4 I J X v.1 v.2 hv r h1 h2) h r hq
set_option maxRecDepth 100000 in
theorem zM_rule_76_98_144_ok (l : Nat)  (x1 : Int32) (s1 : Int32) (s2 : Int32) (I : iq_I) (J : iq_J) (X : iq_X)  {q : Int32 × iq_I} (h : zM_rule_76_98_144 x1 s1 s2 I = some q)  : iq_Gg 2 261 (144, [some (.ref 76), some (.int x1), none, none, none, none, none], [.int s2, .int s1, .ref 101], (iq_sh l, I, J, X)) (.inl (some (.int q.1)), (iq_sh l, q.2, J, X)) := by
  unfold zM_rule_76_98_144 at h
  obtain ⟨hc_, h⟩ := iq_itn h
  refine iq_G_pos (c := iq_in s1 7) (σ1 := (145, [some (.ref 76), some (.int x1), none, none, none, none, none], [], (iq_sh l, (iq_upI I 101 (Int32.toNatClampNeg s1) s2), J, X))) (fun _ => rfl) hc_ ?_
  obtain ⟨I9, eI9, h⟩ := ir_letG h
  rw [← eI9]
  clear eI9
  refine iq_G_go (k := 2) (σ' := (147, [some (.ref 76), some (.int x1), none, none, none, none, none], [.int x1, .ref 76], (iq_sh l, I9, J, X))) (fun _ => rfl) ?_
  obtain ⟨q10, hq10, h⟩ := iq_bnd h
  refine iq_G_call (σ' := (150, [some (.ref 76), some (.int x1), none, none, none, none, none], [.int q10.1], (iq_sh l, q10.2, J, X))) (fun _ => rfl) (zM_reckons_ok l x1 I9 J X hq10) rfl rfl ?_
  cases h
  exact iq_G_ret (fun _ => rfl)
set_option maxRecDepth 100000 in
theorem zM_rule_76_98_143_ok (l : Nat)  (x1 : Int32) (s1 : Int32) (I : iq_I) (J : iq_J) (X : iq_X)  {q : Int32 × iq_I} (h : zM_rule_76_98_143 x1 s1 I = some q)  : iq_Gg 2 261 (143, [some (.ref 76), some (.int x1), none, none, none, none, none], [.int s1, .ref 101], (iq_sh l, I, J, X)) (.inl (some (.int q.1)), (iq_sh l, q.2, J, X)) := by
  unfold zM_rule_76_98_143 at h
  refine iq_G_go (k := 1) (σ' := (144, [some (.ref 76), some (.int x1), none, none, none, none, none], [.int (0 : Int32), .int s1, .ref 101], (iq_sh l, I, J, X))) (fun _ => rfl) ?_
  exact iq_G_fg (L := [some (.ref 76), some (.int x1), none, none, none, none, none]) (And.intro rfl (And.intro rfl trivial)) (zM_rule_76_98_144_ok l x1 s1 (0 : Int32) I J X  h )
set_option maxRecDepth 100000 in
theorem zM_rule_76_98_ok (l : Nat)  (x1 : Int32) (x3 : Int32) (x4 : Int32) (I : iq_I) (J : iq_J) (X : iq_X) {q : Int32 × iq_I} (h : zM_rule_76_98 x1 x3 x4 I = some q) : iq_Cc 3 261 [.ref 76, .int x1, .ref 98, .int x3, .int x4] (iq_sh l, I, J, X) (.inl (some (.int q.1)), (iq_sh l, q.2, J, X)) := by
  refine iq_Cc_of (L := [some (.ref 76), some (.int x1), some (.ref 98), some (.int x3), some (.int x4), none, none]) rfl rfl ?_
  unfold zM_rule_76_98 at h
  refine iq_G_go (k := 4) (σ' := (6, [some (.ref 76), some (.int x1), some (.ref 98), some (.int x3), some (.int x4), some (.int (0 : Int32)), some (.int (0 : Int32))], [], (iq_sh l, I, J, X))) (fun _ => rfl) ?_
  obtain ⟨w2, hw2, h⟩ := iq_bnd h
  refine iq_G_fg (L := [some (.ref 76), some (.int x1), some (.ref 98), some (.int x3), some (.int x4), some (.int (0 : Int32)), some (.int (0 : Int32))]) (And.intro rfl (And.intro rfl (And.intro rfl (And.intro rfl (And.intro rfl (And.intro rfl (And.intro rfl trivial))))))) ?_
  refine zM_rule_76_98_l6_ok l x1 x3 x4 I J X hw2 _ ?_
  show iq_Gg 2 261 (43, [some (.ref 76), some (.int x1), some (.ref 98), some (.int x3), some (.int x4), some (.int w2), none], [], (iq_sh l, I, J, X)) _
  refine iq_G_go (k := 6) (σ' := (54, [some (.ref 76), some (.int x1), some (.ref 98), some (.int x3), some (.int x4), some (.int w2), none], [.int x4, .ref 79, .int (0 : Int32), .ref 101], (iq_sh l, I, J, X))) (fun _ => rfl) ?_
  obtain ⟨hc_, h⟩ := iq_itn h
  refine iq_G_pos (c := iq_in x4 14) (σ1 := (55, [some (.ref 76), some (.int x1), some (.ref 98), some (.int x3), some (.int x4), some (.int w2), none], [.int (I 79 (Int32.toNatClampNeg x4)), .int (0 : Int32), .ref 101], (iq_sh l, I, J, X))) (fun _ => rfl) hc_ ?_
  refine iq_G_go (k := 1) (σ' := (56, [some (.ref 76), some (.int x1), some (.ref 98), some (.int x3), some (.int x4), some (.int w2), none], [], (iq_sh l, (iq_upI I 101 0 (I 79 (Int32.toNatClampNeg x4))), J, X))) (fun _ => rfl) ?_
  obtain ⟨I3, eI3, h⟩ := ir_letG h
  rw [← eI3]
  clear eI3
  refine iq_G_go (k := 6) (σ' := (67, [some (.ref 76), some (.int x1), some (.ref 98), some (.int x3), some (.int x4), some (.int w2), none], [.int x4, .ref 78, .int (1 : Int32), .ref 101], (iq_sh l, I3, J, X))) (fun _ => rfl) ?_
  obtain ⟨hc_, h⟩ := iq_itn h
  refine iq_G_pos (c := iq_in x4 14) (σ1 := (68, [some (.ref 76), some (.int x1), some (.ref 98), some (.int x3), some (.int x4), some (.int w2), none], [.int (I3 78 (Int32.toNatClampNeg x4)), .int (1 : Int32), .ref 101], (iq_sh l, I3, J, X))) (fun _ => rfl) hc_ ?_
  refine iq_G_go (k := 1) (σ' := (69, [some (.ref 76), some (.int x1), some (.ref 98), some (.int x3), some (.int x4), some (.int w2), none], [], (iq_sh l, (iq_upI I3 101 1 (I3 78 (Int32.toNatClampNeg x4))), J, X))) (fun _ => rfl) ?_
  obtain ⟨I4, eI4, h⟩ := ir_letG h
  rw [← eI4]
  clear eI4
  refine iq_G_go (k := 4) (σ' := (76, [some (.ref 76), some (.int x1), some (.ref 98), some (.int x3), some (.int x4), some (.int w2), none], [.int x4, .int (2 : Int32), .ref 101], (iq_sh l, I4, J, X))) (fun _ => rfl) ?_
  refine iq_G_go (k := 1) (σ' := (77, [some (.ref 76), some (.int x1), some (.ref 98), some (.int x3), some (.int x4), some (.int w2), none], [], (iq_sh l, (iq_upI I4 101 2 x4), J, X))) (fun _ => rfl) ?_
  obtain ⟨I5, eI5, h⟩ := ir_letG h
  rw [← eI5]
  clear eI5
  refine iq_G_go (k := 5) (σ' := (84, [some (.ref 76), some (.int x1), some (.ref 98), some (.int x3), some (.int x4), some (.int w2), none], [.int (5 : Int32), .ref 98, .int (3 : Int32), .ref 101], (iq_sh l, I5, J, X))) (fun _ => rfl) ?_
  refine iq_G_go (k := 1) (σ' := (85, [some (.ref 76), some (.int x1), some (.ref 98), some (.int x3), some (.int x4), some (.int w2), none], [.int (I5 98 5), .int (3 : Int32), .ref 101], (iq_sh l, I5, J, X))) (fun _ => rfl) ?_
  refine iq_G_go (k := 1) (σ' := (86, [some (.ref 76), some (.int x1), some (.ref 98), some (.int x3), some (.int x4), some (.int w2), none], [], (iq_sh l, (iq_upI I5 101 3 (I5 98 5)), J, X))) (fun _ => rfl) ?_
  obtain ⟨I6, eI6, h⟩ := ir_letG h
  rw [← eI6]
  clear eI6
  refine iq_G_go (k := 5) (σ' := (93, [some (.ref 76), some (.int x1), some (.ref 98), some (.int x3), some (.int x4), some (.int w2), none], [.int x3, .ref 98, .int (4 : Int32), .ref 101], (iq_sh l, I6, J, X))) (fun _ => rfl) ?_
  obtain ⟨hc_, h⟩ := iq_itn h
  refine iq_G_pos (c := iq_in x3 206) (σ1 := (94, [some (.ref 76), some (.int x1), some (.ref 98), some (.int x3), some (.int x4), some (.int w2), none], [.int (I6 98 (Int32.toNatClampNeg x3)), .int (4 : Int32), .ref 101], (iq_sh l, I6, J, X))) (fun _ => rfl) hc_ ?_
  refine iq_G_go (k := 1) (σ' := (95, [some (.ref 76), some (.int x1), some (.ref 98), some (.int x3), some (.int x4), some (.int w2), none], [], (iq_sh l, (iq_upI I6 101 4 (I6 98 (Int32.toNatClampNeg x3))), J, X))) (fun _ => rfl) ?_
  obtain ⟨I7, eI7, h⟩ := ir_letG h
  rw [← eI7]
  clear eI7
  refine iq_G_go (k := 4) (σ' := (102, [some (.ref 76), some (.int x1), some (.ref 98), some (.int x3), some (.int x4), some (.int w2), none], [.int w2, .int (5 : Int32), .ref 101], (iq_sh l, I7, J, X))) (fun _ => rfl) ?_
  refine iq_G_go (k := 1) (σ' := (103, [some (.ref 76), some (.int x1), some (.ref 98), some (.int x3), some (.int x4), some (.int w2), none], [], (iq_sh l, (iq_upI I7 101 5 w2), J, X))) (fun _ => rfl) ?_
  obtain ⟨I8, eI8, h⟩ := ir_letG h
  rw [← eI8]
  clear eI8
  refine iq_G_go (k := 5) (σ' := (111, [some (.ref 76), some (.int x1), some (.ref 98), some (.int x3), some (.int x4), some (.int w2), none], [.int x3, .ref 98, .int (6 : Int32), .ref 101], (iq_sh l, I8, J, X))) (fun _ => rfl) ?_
  obtain ⟨hc_, h⟩ := iq_itn h
  refine iq_G_pos (c := iq_in x3 206) (σ1 := (112, [some (.ref 76), some (.int x1), some (.ref 98), some (.int x3), some (.int x4), some (.int w2), none], [.int (I8 98 (Int32.toNatClampNeg x3)), .int (6 : Int32), .ref 101], (iq_sh l, I8, J, X))) (fun _ => rfl) hc_ ?_
  rcases iq_ite h with ⟨hc_, h⟩ | ⟨hc_, h⟩
  · refine iq_G_pos (c := (I8 98 (Int32.toNatClampNeg x3)) ≤ 0) (σ1 := (143, [some (.ref 76), some (.int x1), some (.ref 98), some (.int x3), some (.int x4), some (.int w2), none], [.int (6 : Int32), .ref 101], (iq_sh l, I8, J, X))) (fun _ => rfl) hc_ ?_
    exact iq_G_fg (L := [some (.ref 76), some (.int x1), none, none, none, none, none]) (And.intro rfl (And.intro rfl trivial)) (zM_rule_76_98_143_ok l x1 (6 : Int32) I8 J X  h )
  · refine iq_G_neg (c := (I8 98 (Int32.toNatClampNeg x3)) ≤ 0) (σ1 := (115, [some (.ref 76), some (.int x1), some (.ref 98), some (.int x3), some (.int x4), some (.int w2), none], [.int (6 : Int32), .ref 101], (iq_sh l, I8, J, X))) (fun _ => rfl) hc_ ?_
    refine iq_G_go (k := 6) (σ' := (121, [some (.ref 76), some (.int x1), some (.ref 98), some (.int x3), some (.int x4), some (.int w2), none], [.int x3, .ref 98, .int x3, .ref 98, .ref 76, .ref 76, .int (6 : Int32), .ref 101], (iq_sh l, I8, J, X))) (fun _ => rfl) ?_
    obtain ⟨hc_, h⟩ := iq_itn h
    refine iq_G_pos (c := iq_in x3 206) (σ1 := (122, [some (.ref 76), some (.int x1), some (.ref 98), some (.int x3), some (.int x4), some (.int w2), none], [.int (I8 98 (Int32.toNatClampNeg x3)), .int x3, .ref 98, .ref 76, .ref 76, .int (6 : Int32), .ref 101], (iq_sh l, I8, J, X))) (fun _ => rfl) hc_ ?_
    refine iq_G_go (k := 2) (σ' := (124, [some (.ref 76), some (.int x1), some (.ref 98), some (.int x3), some (.int x4), some (.int w2), none], [.int ((I8 98 (Int32.toNatClampNeg x3)) - (1 : Int32)), .int x3, .ref 98, .ref 76, .ref 76, .int (6 : Int32), .ref 101], (iq_sh l, I8, J, X))) (fun _ => rfl) ?_
    obtain ⟨q11, hq11, h⟩ := iq_bnd h
    refine iq_G_call (σ' := (127, [some (.ref 76), some (.int x1), some (.ref 98), some (.int x3), some (.int x4), some (.int w2), none], [.int q11, .ref 76, .int (6 : Int32), .ref 101], (iq_sh l, I8, J, X))) (fun _ => rfl) (zM_wordAt_76_98_ok l x3 ((I8 98 (Int32.toNatClampNeg x3)) - (1 : Int32)) I8 J X hq11) rfl rfl ?_
    obtain ⟨q12, hq12, h⟩ := iq_bnd h
    refine iq_G_call (σ' := (130, [some (.ref 76), some (.int x1), some (.ref 98), some (.int x3), some (.int x4), some (.int w2), none], [.int q12, .int (6 : Int32), .ref 101], (iq_sh l, I8, J, X))) (fun _ => rfl) (zM_lastLetter_ok l q11 I8 J X hq12) rfl rfl ?_
    refine iq_G_go (k := 2) (σ' := (133, [some (.ref 76), some (.int x1), some (.ref 98), some (.int x3), some (.int x4), some (.int w2), none], [.int x4, .ref 76, .int q12, .int (6 : Int32), .ref 101], (iq_sh l, I8, J, X))) (fun _ => rfl) ?_
    obtain ⟨q13, hq13, h⟩ := iq_bnd h
    refine iq_G_call (σ' := (136, [some (.ref 76), some (.int x1), some (.ref 98), some (.int x3), some (.int x4), some (.int w2), none], [.int q13, .int q12, .int (6 : Int32), .ref 101], (iq_sh l, I8, J, X))) (fun _ => rfl) (zM_lastLetter_ok l x4 I8 J X hq13) rfl rfl ?_
    rcases iq_ite h with ⟨hc_, h⟩ | ⟨hc_, h⟩
    · refine iq_G_pos (c := ¬ q12 = q13) (σ1 := (143, [some (.ref 76), some (.int x1), some (.ref 98), some (.int x3), some (.int x4), some (.int w2), none], [.int (6 : Int32), .ref 101], (iq_sh l, I8, J, X))) (fun _ => rfl) hc_ ?_
      exact iq_G_fg (L := [some (.ref 76), some (.int x1), none, none, none, none, none]) (And.intro rfl (And.intro rfl trivial)) (zM_rule_76_98_143_ok l x1 (6 : Int32) I8 J X  h )
    · refine iq_G_neg (c := ¬ q12 = q13) (σ1 := (139, [some (.ref 76), some (.int x1), some (.ref 98), some (.int x3), some (.int x4), some (.int w2), none], [.int (6 : Int32), .ref 101], (iq_sh l, I8, J, X))) (fun _ => rfl) hc_ ?_
      refine iq_G_go (k := 2) (σ' := (144, [some (.ref 76), some (.int x1), some (.ref 98), some (.int x3), some (.int x4), some (.int w2), none], [.int (1 : Int32), .int (6 : Int32), .ref 101], (iq_sh l, I8, J, X))) (fun _ => rfl) ?_
      exact iq_G_fg (L := [some (.ref 76), some (.int x1), none, none, none, none, none]) (And.intro rfl (And.intro rfl trivial)) (zM_rule_76_98_144_ok l x1 (6 : Int32) (1 : Int32) I8 J X  h )
set_option maxRecDepth 100000 in
theorem zM_mayCome_76_98_ok (l : Nat)  (x2 : Int32) (x3 : Int32) (x4 : Int32) (I : iq_I) (J : iq_J) (X : iq_X) {q : Int32 × iq_I} (h : zM_mayCome_76_98 x2 x3 x4 I = some q) : iq_Cc 4 263 [.ref 76, .ref 98, .int x2, .int x3, .int x4] (iq_sh l, I, J, X) (.inl (some (.int q.1)), (iq_sh l, q.2, J, X)) := by
  refine iq_Cc_of (L := [some (.ref 76), some (.ref 98), some (.int x2), some (.int x3), some (.int x4), none]) rfl rfl ?_
  unfold zM_mayCome_76_98 at h
  refine iq_G_go (k := 2) (σ' := (2, [some (.ref 76), some (.ref 98), some (.int x2), some (.int x3), some (.int x4), none], [.int (-1 : Int32), .int x3], (iq_sh l, I, J, X))) (fun _ => rfl) ?_
  rcases iq_ite h with ⟨hc_, h⟩ | ⟨hc_, h⟩
  · refine iq_G_pos (c := x3 = (-1 : Int32)) (σ1 := (13, [some (.ref 76), some (.ref 98), some (.int x2), some (.int x3), some (.int x4), none], [], (iq_sh l, I, J, X))) (fun _ => rfl) hc_ ?_
    refine iq_G_go (k := 1) (σ' := (14, [some (.ref 76), some (.ref 98), some (.int x2), some (.int x3), some (.int x4), none], [.int (0 : Int32)], (iq_sh l, I, J, X))) (fun _ => rfl) ?_
    cases h
    exact iq_G_ret (fun _ => rfl)
  · refine iq_G_neg (c := x3 = (-1 : Int32)) (σ1 := (5, [some (.ref 76), some (.ref 98), some (.int x2), some (.int x3), some (.int x4), none], [], (iq_sh l, I, J, X))) (fun _ => rfl) hc_ ?_
    refine iq_G_go (k := 2) (σ' := (7, [some (.ref 76), some (.ref 98), some (.int x2), some (.int x3), some (.int x4), none], [.int x2, .ref 98], (iq_sh l, I, J, X))) (fun _ => rfl) ?_
    obtain ⟨hc_, h⟩ := iq_itn h
    refine iq_G_pos (c := iq_in x2 206) (σ1 := (8, [some (.ref 76), some (.ref 98), some (.int x2), some (.int x3), some (.int x4), none], [.int (I 98 (Int32.toNatClampNeg x2))], (iq_sh l, I, J, X))) (fun _ => rfl) hc_ ?_
    refine iq_G_go (k := 1) (σ' := (10, [some (.ref 76), some (.ref 98), some (.int x2), some (.int x3), some (.int x4), none], [.int (40 : Int32), .int (I 98 (Int32.toNatClampNeg x2))], (iq_sh l, I, J, X))) (fun _ => rfl) ?_
    rcases iq_ite h with ⟨hc_, h⟩ | ⟨hc_, h⟩
    · refine iq_G_pos (c := ¬ (I 98 (Int32.toNatClampNeg x2)) = (40 : Int32)) (σ1 := (15, [some (.ref 76), some (.ref 98), some (.int x2), some (.int x3), some (.int x4), none], [], (iq_sh l, I, J, X))) (fun _ => rfl) hc_ ?_
      refine iq_G_go (k := 3) (σ' := (19, [some (.ref 76), some (.ref 98), some (.int x2), some (.int x3), some (.int x4), none], [.int x4, .int x3, .ref 76], (iq_sh l, I, J, X))) (fun _ => rfl) ?_
      obtain ⟨q1, hq1, h⟩ := iq_bnd h
      refine iq_G_call (σ' := (22, [some (.ref 76), some (.ref 98), some (.int x2), some (.int x3), some (.int x4), none], [.int q1], (iq_sh l, I, J, X))) (fun _ => rfl) (zM_leads_ok l x3 x4 I J X hq1) rfl rfl ?_
      refine iq_G_go (k := 3) (σ' := (27, [some (.ref 76), some (.ref 98), some (.int x2), some (.int x3), some (.int x4), some (.int q1)], [.int (-1 : Int32), .int q1], (iq_sh l, I, J, X))) (fun _ => rfl) ?_
      rcases iq_ite h with ⟨hc_, h⟩ | ⟨hc_, h⟩
      · refine iq_G_pos (c := q1 = (-1 : Int32)) (σ1 := (66, [some (.ref 76), some (.ref 98), some (.int x2), some (.int x3), some (.int x4), some (.int q1)], [], (iq_sh l, I, J, X))) (fun _ => rfl) hc_ ?_
        refine iq_G_go (k := 1) (σ' := (67, [some (.ref 76), some (.ref 98), some (.int x2), some (.int x3), some (.int x4), some (.int q1)], [.int (0 : Int32)], (iq_sh l, I, J, X))) (fun _ => rfl) ?_
        cases h
        exact iq_G_ret (fun _ => rfl)
      · refine iq_G_neg (c := q1 = (-1 : Int32)) (σ1 := (30, [some (.ref 76), some (.ref 98), some (.int x2), some (.int x3), some (.int x4), some (.int q1)], [], (iq_sh l, I, J, X))) (fun _ => rfl) hc_ ?_
        refine iq_G_go (k := 2) (σ' := (33, [some (.ref 76), some (.ref 98), some (.int x2), some (.int x3), some (.int x4), some (.int q1)], [.int q1, .ref 76], (iq_sh l, I, J, X))) (fun _ => rfl) ?_
        obtain ⟨q2, hq2, h⟩ := iq_bnd h
        refine iq_G_call (σ' := (36, [some (.ref 76), some (.ref 98), some (.int x2), some (.int x3), some (.int x4), some (.int q1)], [.int q2], (iq_sh l, I, J, X))) (fun _ => rfl) (zM_canFollow_ok l q1 I J X hq2) rfl rfl ?_
        rcases iq_ite h with ⟨hc_, h⟩ | ⟨hc_, h⟩
        · refine iq_G_pos (c := q2 = 0) (σ1 := (66, [some (.ref 76), some (.ref 98), some (.int x2), some (.int x3), some (.int x4), some (.int q1)], [], (iq_sh l, I, J, X))) (fun _ => rfl) hc_ ?_
          refine iq_G_go (k := 1) (σ' := (67, [some (.ref 76), some (.ref 98), some (.int x2), some (.int x3), some (.int x4), some (.int q1)], [.int (0 : Int32)], (iq_sh l, I, J, X))) (fun _ => rfl) ?_
          cases h
          exact iq_G_ret (fun _ => rfl)
        · refine iq_G_neg (c := q2 = 0) (σ1 := (39, [some (.ref 76), some (.ref 98), some (.int x2), some (.int x3), some (.int x4), some (.int q1)], [], (iq_sh l, I, J, X))) (fun _ => rfl) hc_ ?_
          refine iq_G_go (k := 3) (σ' := (44, [some (.ref 76), some (.ref 98), some (.int x2), some (.int x3), some (.int x4), some (.int q1)], [.int (-1 : Int32), .int (I 76 6)], (iq_sh l, I, J, X))) (fun _ => rfl) ?_
          rcases iq_ite h with ⟨hc_, h⟩ | ⟨hc_, h⟩
          · refine iq_G_pos (c := (I 76 6) = (-1 : Int32)) (σ1 := (62, [some (.ref 76), some (.ref 98), some (.int x2), some (.int x3), some (.int x4), some (.int q1)], [], (iq_sh l, I, J, X))) (fun _ => rfl) hc_ ?_
            refine iq_G_go (k := 2) (σ' := (67, [some (.ref 76), some (.ref 98), some (.int x2), some (.int x3), some (.int x4), some (.int q1)], [.int (1 : Int32)], (iq_sh l, I, J, X))) (fun _ => rfl) ?_
            cases h
            exact iq_G_ret (fun _ => rfl)
          · refine iq_G_neg (c := (I 76 6) = (-1 : Int32)) (σ1 := (47, [some (.ref 76), some (.ref 98), some (.int x2), some (.int x3), some (.int x4), some (.int q1)], [], (iq_sh l, I, J, X))) (fun _ => rfl) hc_ ?_
            refine iq_G_go (k := 6) (σ' := (56, [some (.ref 76), some (.ref 98), some (.int x2), some (.int x3), some (.int x4), some (.int q1)], [.int x4, .int x2, .ref 98, .int (I 76 6), .ref 76], (iq_sh l, I, J, X))) (fun _ => rfl) ?_
            obtain ⟨q3, hq3, h⟩ := iq_bnd h
            refine iq_G_call (σ' := (59, [some (.ref 76), some (.ref 98), some (.int x2), some (.int x3), some (.int x4), some (.int q1)], [.int q3.1], (iq_sh l, q3.2, J, X))) (fun _ => rfl) (zM_rule_76_98_ok l (I 76 6) x2 x4 I J X hq3) rfl rfl ?_
            rcases iq_ite h with ⟨hc_, h⟩ | ⟨hc_, h⟩
            · refine iq_G_pos (c := q3.1 = 0) (σ1 := (66, [some (.ref 76), some (.ref 98), some (.int x2), some (.int x3), some (.int x4), some (.int q1)], [], (iq_sh l, q3.2, J, X))) (fun _ => rfl) hc_ ?_
              refine iq_G_go (k := 1) (σ' := (67, [some (.ref 76), some (.ref 98), some (.int x2), some (.int x3), some (.int x4), some (.int q1)], [.int (0 : Int32)], (iq_sh l, q3.2, J, X))) (fun _ => rfl) ?_
              cases h
              exact iq_G_ret (fun _ => rfl)
            · refine iq_G_neg (c := q3.1 = 0) (σ1 := (62, [some (.ref 76), some (.ref 98), some (.int x2), some (.int x3), some (.int x4), some (.int q1)], [], (iq_sh l, q3.2, J, X))) (fun _ => rfl) hc_ ?_
              refine iq_G_go (k := 2) (σ' := (67, [some (.ref 76), some (.ref 98), some (.int x2), some (.int x3), some (.int x4), some (.int q1)], [.int (1 : Int32)], (iq_sh l, q3.2, J, X))) (fun _ => rfl) ?_
              cases h
              exact iq_G_ret (fun _ => rfl)
    · refine iq_G_neg (c := ¬ (I 98 (Int32.toNatClampNeg x2)) = (40 : Int32)) (σ1 := (13, [some (.ref 76), some (.ref 98), some (.int x2), some (.int x3), some (.int x4), none], [], (iq_sh l, I, J, X))) (fun _ => rfl) hc_ ?_
      refine iq_G_go (k := 1) (σ' := (14, [some (.ref 76), some (.ref 98), some (.int x2), some (.int x3), some (.int x4), none], [.int (0 : Int32)], (iq_sh l, I, J, X))) (fun _ => rfl) ?_
      cases h
      exact iq_G_ret (fun _ => rfl)
set_option maxRecDepth 100000 in
theorem zM_days_l36_bok (l : Nat)  (x1 : Int32) (x2 : Int32) (x3 : Int32) (J : iq_J) (X : iq_X) (x4 : Int32) (x5 : Int32) (I : iq_I) {q : (Int32 × Int32 × iq_I) ⊕ (Int32 × iq_I)} (h : zM_days_l36_b x1 x2 x3 x4 x5 I = some q) (r : iq_R × iq_M) (hc : ∀ v, q = .inl v → iq_Gg 4 300 (36, [some (.ref 76), some (.int x1), some (.int x2), some (.int x3), some (.int v.1), some (.int v.2.1)], [], (iq_sh l, v.2.2, J, X)) r) (hx : ∀ w, q = .inr w → iq_Gg 4 300 (92, [some (.ref 76), none, none, some (.int x3), some (.int w.1), none], [], (iq_sh l, w.2, J, X)) r) : iq_Gg 4 300 (36, [some (.ref 76), some (.int x1), some (.int x2), some (.int x3), some (.int x4), some (.int x5)], [], (iq_sh l, I, J, X)) r := by
  unfold zM_days_l36_b at h
  refine iq_G_go (k := 2) (σ' := (40, [some (.ref 76), some (.int x1), some (.int x2), some (.int x3), some (.int x4), some (.int x5)], [.int (7 : Int32), .int x5], (iq_sh l, I, J, X))) (fun _ => rfl) ?_
  rcases iq_ite h with ⟨hc_, h⟩ | ⟨hc_, h⟩
  · refine iq_G_pos (c := (7 : Int32) ≤ x5) (σ1 := (92, [some (.ref 76), some (.int x1), some (.int x2), some (.int x3), some (.int x4), some (.int x5)], [], (iq_sh l, I, J, X))) (fun _ => rfl) hc_ ?_
    cases h
    exact iq_G_fg (L := [some (.ref 76), none, none, some (.int x3), some (.int x4), none]) (And.intro rfl (And.intro rfl (And.intro rfl trivial))) (hx (x4, I) rfl)
  · refine iq_G_neg (c := (7 : Int32) ≤ x5) (σ1 := (43, [some (.ref 76), some (.int x1), some (.int x2), some (.int x3), some (.int x4), some (.int x5)], [], (iq_sh l, I, J, X))) (fun _ => rfl) hc_ ?_
    refine iq_G_go (k := 4) (σ' := (50, [some (.ref 76), some (.int x1), some (.int x2), some (.int x3), some (.int x4), some (.int x5)], [.int x5, .int (5 : Int32), .ref 98], (iq_sh l, I, J, X))) (fun _ => rfl) ?_
    refine iq_G_go (k := 1) (σ' := (51, [some (.ref 76), some (.int x1), some (.int x2), some (.int x3), some (.int x4), some (.int x5)], [], (iq_sh l, (iq_upI I 98 5 x5), J, X))) (fun _ => rfl) ?_
    obtain ⟨I4, eI4, h⟩ := ir_letG h
    rw [← eI4]
    clear eI4
    refine iq_G_go (k := 9) (σ' := (65, [some (.ref 76), some (.int x1), some (.int x2), some (.int x3), some (.int x4), some (.int x5)], [.int x1, .ref 98, .ref 76, .int x1, .ref 98, .ref 76, .int x4], (iq_sh l, I4, J, X))) (fun _ => rfl) ?_
    obtain ⟨q5, hq5, h⟩ := iq_bnd h
    refine iq_G_call (σ' := (68, [some (.ref 76), some (.int x1), some (.int x2), some (.int x3), some (.int x4), some (.int x5)], [.int q5, .int x1, .ref 98, .ref 76, .int x4], (iq_sh l, I4, J, X))) (fun _ => rfl) (zM_stateNow_76_98_ok l x1 I4 J X hq5) rfl rfl ?_
    refine iq_G_go (k := 1) (σ' := (69, [some (.ref 76), some (.int x1), some (.int x2), some (.int x3), some (.int x4), some (.int x5)], [.int x2, .int q5, .int x1, .ref 98, .ref 76, .int x4], (iq_sh l, I4, J, X))) (fun _ => rfl) ?_
    obtain ⟨q6, hq6, h⟩ := iq_bnd h
    refine iq_G_call (σ' := (72, [some (.ref 76), some (.int x1), some (.int x2), some (.int x3), some (.int x4), some (.int x5)], [.int q6.1, .int x4], (iq_sh l, q6.2, J, X))) (fun _ => rfl) (zM_mayCome_76_98_ok l x1 q5 x2 I4 J X hq6) rfl rfl ?_
    rcases iq_ite h with ⟨hc_, h⟩ | ⟨hc_, h⟩
    · refine iq_G_pos (c := q6.1 = 0) (σ1 := (82, [some (.ref 76), some (.int x1), some (.int x2), some (.int x3), some (.int x4), some (.int x5)], [.int x4], (iq_sh l, q6.2, J, X))) (fun _ => rfl) hc_ ?_
      refine iq_G_go (k := 5) (σ' := (36, [some (.ref 76), some (.int x1), some (.int x2), some (.int x3), some (.int (x4 ||| (0 : Int32))), some (.int (x5 + (1 : Int32)))], [], (iq_sh l, q6.2, J, X))) (fun _ => rfl) ?_
      cases h
      exact iq_G_fg (L := [some (.ref 76), some (.int x1), some (.int x2), some (.int x3), some (.int (x4 ||| (0 : Int32))), some (.int (x5 + (1 : Int32)))]) (And.intro rfl (And.intro rfl (And.intro rfl (And.intro rfl (And.intro rfl (And.intro rfl trivial)))))) (hc ((x4 ||| (0 : Int32)), (x5 + (1 : Int32)), q6.2) rfl)
    · refine iq_G_neg (c := q6.1 = 0) (σ1 := (75, [some (.ref 76), some (.int x1), some (.int x2), some (.int x3), some (.int x4), some (.int x5)], [.int x4], (iq_sh l, q6.2, J, X))) (fun _ => rfl) hc_ ?_
      refine iq_G_go (k := 8) (σ' := (36, [some (.ref 76), some (.int x1), some (.int x2), some (.int x3), some (.int (x4 ||| ((1 : Int32) <<< (x5 &&& 31)))), some (.int (x5 + (1 : Int32)))], [], (iq_sh l, q6.2, J, X))) (fun _ => rfl) ?_
      cases h
      exact iq_G_fg (L := [some (.ref 76), some (.int x1), some (.int x2), some (.int x3), some (.int (x4 ||| ((1 : Int32) <<< (x5 &&& 31)))), some (.int (x5 + (1 : Int32)))]) (And.intro rfl (And.intro rfl (And.intro rfl (And.intro rfl (And.intro rfl (And.intro rfl trivial)))))) (hc ((x4 ||| ((1 : Int32) <<< (x5 &&& 31))), (x5 + (1 : Int32)), q6.2) rfl)
set_option maxRecDepth 100000 in
theorem zM_days_l36_ok (l : Nat)  (x1 : Int32) (x2 : Int32) (x3 : Int32) (J : iq_J) (X : iq_X) {n : Nat} {v : Int32 × Int32 × iq_I} {w : Int32 × iq_I} (h : zM_days_l36 x1 x2 x3 n v = some w) (r : iq_R × iq_M) (hq : iq_Gg 4 300 (92, [some (.ref 76), none, none, some (.int x3), some (.int w.1), none], [], (iq_sh l, w.2, J, X)) r) : iq_Gg 4 300 (36, [some (.ref 76), some (.int x1), some (.int x2), some (.int x3), some (.int v.1), some (.int v.2.1)], [], (iq_sh l, v.2.2, J, X)) r :=
  iq_lp_ok (σ := fun v => (36, [some (.ref 76), some (.int x1), some (.int x2), some (.int x3), some (.int v.1), some (.int v.2.1)], [], (iq_sh l, v.2.2, J, X))) (Q := fun w r => iq_Gg 4 300 (92, [some (.ref 76), none, none, some (.int x3), some (.int w.1), none], [], (iq_sh l, w.2, J, X)) r) (fun v q hv r h1 h2 => zM_days_l36_bok l x1 x2 x3 J X v.1 v.2.1 v.2.2 hv r h1 h2) h r hq
set_option maxRecDepth 100000 in
theorem zM_days_ok (l : Nat)  (x1 : Int32) (x2 : Int32) (I : iq_I) (J : iq_J) (X : iq_X) {q : Int32 × iq_I} (h : zM_days x1 x2 I = some q) : iq_Cc 5 300 [.ref 76, .int x1, .int x2] (iq_sh l, I, J, X) (.inl (some (.int q.1)), (iq_sh l, q.2, J, X)) := by
  refine iq_Cc_of (L := [some (.ref 76), some (.int x1), some (.int x2), none, none, none]) rfl rfl ?_
  unfold zM_days at h
  refine iq_G_go (k := 2) (σ' := (2, [some (.ref 76), some (.int x1), some (.int x2), none, none, none], [.int (0 : Int32), .ref 76], (iq_sh l, I, J, X))) (fun _ => rfl) ?_
  refine iq_G_go (k := 1) (σ' := (5, [some (.ref 76), some (.int x1), some (.int x2), none, none, none], [], (iq_sh l, (iq_upI I 76 0 (0 : Int32)), J, X))) (fun _ => rfl) ?_
  obtain ⟨I1, eI1, h⟩ := ir_letG h
  rw [← eI1]
  clear eI1
  refine iq_G_go (k := 2) (σ' := (7, [some (.ref 76), some (.int x1), some (.int x2), none, none, none], [.int x1, .ref 76], (iq_sh l, I1, J, X))) (fun _ => rfl) ?_
  obtain ⟨q2, hq2, h⟩ := iq_bnd h
  refine iq_G_call (σ' := (10, [some (.ref 76), some (.int x1), some (.int x2), none, none, none], [.int q2.1], (iq_sh l, q2.2, J, X))) (fun _ => rfl) (zM_isSaying_ok l x1 I1 J X hq2) rfl rfl ?_
  rcases iq_ite h with ⟨hc_, h⟩ | ⟨hc_, h⟩
  · refine iq_G_pos (c := q2.1 = 0) (σ1 := (21, [some (.ref 76), some (.int x1), some (.int x2), none, none, none], [], (iq_sh l, q2.2, J, X))) (fun _ => rfl) hc_ ?_
    refine iq_G_go (k := 1) (σ' := (22, [some (.ref 76), some (.int x1), some (.int x2), none, none, none], [.int (0 : Int32)], (iq_sh l, q2.2, J, X))) (fun _ => rfl) ?_
    cases h
    exact iq_G_ret (fun _ => rfl)
  · refine iq_G_neg (c := q2.1 = 0) (σ1 := (13, [some (.ref 76), some (.int x1), some (.int x2), none, none, none], [], (iq_sh l, q2.2, J, X))) (fun _ => rfl) hc_ ?_
    refine iq_G_go (k := 2) (σ' := (15, [some (.ref 76), some (.int x1), some (.int x2), none, none, none], [.int x2, .ref 76], (iq_sh l, q2.2, J, X))) (fun _ => rfl) ?_
    obtain ⟨q3, hq3, h⟩ := iq_bnd h
    refine iq_G_call (σ' := (18, [some (.ref 76), some (.int x1), some (.int x2), none, none, none], [.int q3.1], (iq_sh l, q3.2, J, X))) (fun _ => rfl) (zM_isWord_ok l x2 q2.2 J X hq3) rfl rfl ?_
    rcases iq_ite h with ⟨hc_, h⟩ | ⟨hc_, h⟩
    · refine iq_G_pos (c := ¬ q3.1 = 0) (σ1 := (23, [some (.ref 76), some (.int x1), some (.int x2), none, none, none], [], (iq_sh l, q3.2, J, X))) (fun _ => rfl) hc_ ?_
      refine iq_G_go (k := 3) (σ' := (28, [some (.ref 76), some (.int x1), some (.int x2), none, none, none], [.int (5 : Int32), .ref 98], (iq_sh l, q3.2, J, X))) (fun _ => rfl) ?_
      refine iq_G_go (k := 1) (σ' := (29, [some (.ref 76), some (.int x1), some (.int x2), none, none, none], [.int (q3.2 98 5)], (iq_sh l, q3.2, J, X))) (fun _ => rfl) ?_
      refine iq_G_go (k := 5) (σ' := (36, [some (.ref 76), some (.int x1), some (.int x2), some (.int (q3.2 98 5)), some (.int (0 : Int32)), some (.int (0 : Int32))], [], (iq_sh l, q3.2, J, X))) (fun _ => rfl) ?_
      obtain ⟨w7, hw7, h⟩ := iq_bnd h
      refine iq_G_fg (L := [some (.ref 76), some (.int x1), some (.int x2), some (.int (q3.2 98 5)), some (.int (0 : Int32)), some (.int (0 : Int32))]) (And.intro rfl (And.intro rfl (And.intro rfl (And.intro rfl (And.intro rfl (And.intro rfl trivial)))))) ?_
      refine zM_days_l36_ok l x1 x2 (q3.2 98 5) J X hw7 _ ?_
      show iq_Gg 4 300 (92, [some (.ref 76), none, none, some (.int (q3.2 98 5)), some (.int w7.1), none], [], (iq_sh l, w7.2, J, X)) _
      refine iq_G_go (k := 4) (σ' := (98, [some (.ref 76), none, none, some (.int (q3.2 98 5)), some (.int w7.1), none], [.int (q3.2 98 5), .int (5 : Int32), .ref 98], (iq_sh l, w7.2, J, X))) (fun _ => rfl) ?_
      refine iq_G_go (k := 1) (σ' := (99, [some (.ref 76), none, none, some (.int (q3.2 98 5)), some (.int w7.1), none], [], (iq_sh l, (iq_upI w7.2 98 5 (q3.2 98 5)), J, X))) (fun _ => rfl) ?_
      obtain ⟨I8, eI8, h⟩ := ir_letG h
      rw [← eI8]
      clear eI8
      refine iq_G_go (k := 1) (σ' := (101, [some (.ref 76), none, none, some (.int (q3.2 98 5)), some (.int w7.1), none], [.int w7.1], (iq_sh l, I8, J, X))) (fun _ => rfl) ?_
      cases h
      exact iq_G_ret (fun _ => rfl)
    · refine iq_G_neg (c := ¬ q3.1 = 0) (σ1 := (21, [some (.ref 76), some (.int x1), some (.int x2), none, none, none], [], (iq_sh l, q3.2, J, X))) (fun _ => rfl) hc_ ?_
      refine iq_G_go (k := 1) (σ' := (22, [some (.ref 76), some (.int x1), some (.int x2), none, none, none], [.int (0 : Int32)], (iq_sh l, q3.2, J, X))) (fun _ => rfl) ?_
      cases h
      exact iq_G_ret (fun _ => rfl)
set_option maxRecDepth 100000 in
theorem zO_needState_15_ok (l : Nat)   (I : iq_I) (J : iq_J) (X : iq_X)  {q : (Unit ⊕ Nat) × iq_X} (h : zO_needState_15 I X = some q)  : iq_Gg 0 192 (15, [none, none], [], (iq_sh l, I, J, X)) ((ir_Rv q.1), (iq_sh l, I, J, q.2)) := by
  unfold zO_needState_15 at h
  cases h
  exact iq_G_ret (fun _ => rfl)
set_option maxRecDepth 100000 in
theorem zO_needState_ok (l : Nat)  (x1 : Int32) (I : iq_I) (J : iq_J) (X : iq_X) {q : (Unit ⊕ Nat) × iq_X} (h : zO_needState x1 I X = some q) : iq_Cc 1 192 [.ref 1, .int x1] (iq_sh l, I, J, X) ((ir_Rv q.1), (iq_sh l, I, J, q.2)) := by
  refine iq_Cc_of (L := [some (.ref 1), some (.int x1)]) rfl rfl ?_
  unfold zO_needState at h
  refine iq_G_go (k := 1) (σ' := (1, [some (.ref 1), some (.int x1)], [.int x1], (iq_sh l, I, J, X))) (fun _ => rfl) ?_
  rcases iq_ite h with ⟨hc_, h⟩ | ⟨hc_, h⟩
  · refine iq_G_pos (c := x1 < 0) (σ1 := (15, [some (.ref 1), some (.int x1)], [], (iq_sh l, I, J, X))) (fun _ => rfl) hc_ ?_
    exact iq_G_fg (L := [none, none]) trivial (zO_needState_15_ok l I J X  h )
  · refine iq_G_neg (c := x1 < 0) (σ1 := (4, [some (.ref 1), some (.int x1)], [], (iq_sh l, I, J, X))) (fun _ => rfl) hc_ ?_
    refine iq_G_go (k := 4) (σ' := (12, [some (.ref 1), some (.int x1)], [.int (I 4 0), .int x1], (iq_sh l, I, J, X))) (fun _ => rfl) ?_
    rcases iq_ite h with ⟨hc_, h⟩ | ⟨hc_, h⟩
    · refine iq_G_pos (c := x1 < (I 4 0)) (σ1 := (26, [some (.ref 1), some (.int x1)], [], (iq_sh l, I, J, X))) (fun _ => rfl) hc_ ?_
      cases h
      exact iq_G_ret (fun _ => rfl)
    · refine iq_G_neg (c := x1 < (I 4 0)) (σ1 := (15, [some (.ref 1), some (.int x1)], [], (iq_sh l, I, J, X))) (fun _ => rfl) hc_ ?_
      exact iq_G_fg (L := [none, none]) trivial (zO_needState_15_ok l I J X  h )

