/-! ===== the abstract machine does the same (printed by wip/whole/emitall.py, split.py) ===== -/
set_option maxRecDepth 100000 in
theorem zM_see_ok (l : Nat)  (x1 : Int32) (x2 : Int32) (I : iq_I) (J : iq_J) (X : iq_X) {q : Int32 × iq_I} (h : zM_see x1 x2 I = some q) : iq_Cc 3 287 [.ref 76, .int x1, .int x2] (iq_sh l, I, J, X) (.inl (some (.int q.1)), (iq_sh l, q.2, J, X)) := by
  refine iq_Cc_of (L := [some (.ref 76), some (.int x1), some (.int x2)]) rfl rfl ?_
  unfold zM_see at h
  refine iq_G_go (k := 2) (σ' := (2, [some (.ref 76), some (.int x1), some (.int x2)], [.int (0 : Int32), .ref 76], (iq_sh l, I, J, X))) (fun _ => rfl) ?_
  refine iq_G_go (k := 1) (σ' := (5, [some (.ref 76), some (.int x1), some (.int x2)], [], (iq_sh l, (iq_upI I 76 0 (0 : Int32)), J, X))) (fun _ => rfl) ?_
  obtain ⟨I1, eI1, h⟩ := ir_letG h
  rw [← eI1]
  clear eI1
  refine iq_G_go (k := 2) (σ' := (7, [some (.ref 76), some (.int x1), some (.int x2)], [.int x1, .ref 76], (iq_sh l, I1, J, X))) (fun _ => rfl) ?_
  obtain ⟨q2, hq2, h⟩ := iq_bnd h
  refine iq_G_call (σ' := (10, [some (.ref 76), some (.int x1), some (.int x2)], [.int q2.1], (iq_sh l, q2.2, J, X))) (fun _ => rfl) (zM_isSaying_ok l x1 I1 J X hq2) rfl rfl ?_
  rcases iq_ite h with ⟨hc_, h⟩ | ⟨hc_, h⟩
  · refine iq_G_pos (c := q2.1 = 0) (σ1 := (21, [some (.ref 76), some (.int x1), some (.int x2)], [], (iq_sh l, q2.2, J, X))) (fun _ => rfl) hc_ ?_
    refine iq_G_go (k := 1) (σ' := (22, [some (.ref 76), some (.int x1), some (.int x2)], [.int (0 : Int32)], (iq_sh l, q2.2, J, X))) (fun _ => rfl) ?_
    cases h
    exact iq_G_ret (fun _ => rfl)
  · refine iq_G_neg (c := q2.1 = 0) (σ1 := (13, [some (.ref 76), some (.int x1), some (.int x2)], [], (iq_sh l, q2.2, J, X))) (fun _ => rfl) hc_ ?_
    refine iq_G_go (k := 2) (σ' := (15, [some (.ref 76), some (.int x1), some (.int x2)], [.int x2, .ref 76], (iq_sh l, q2.2, J, X))) (fun _ => rfl) ?_
    obtain ⟨q3, hq3, h⟩ := iq_bnd h
    refine iq_G_call (σ' := (18, [some (.ref 76), some (.int x1), some (.int x2)], [.int q3.1], (iq_sh l, q3.2, J, X))) (fun _ => rfl) (zM_isWord_ok l x2 q2.2 J X hq3) rfl rfl ?_
    rcases iq_ite h with ⟨hc_, h⟩ | ⟨hc_, h⟩
    · refine iq_G_pos (c := ¬ q3.1 = 0) (σ1 := (23, [some (.ref 76), some (.int x1), some (.int x2)], [], (iq_sh l, q3.2, J, X))) (fun _ => rfl) hc_ ?_
      refine iq_G_go (k := 3) (σ' := (28, [some (.ref 76), some (.int x1), some (.int x2)], [.int (3 : Int32), .int (q3.2 76 63)], (iq_sh l, q3.2, J, X))) (fun _ => rfl) ?_
      rcases iq_ite h with ⟨hc_, h⟩ | ⟨hc_, h⟩
      · refine iq_G_pos (c := ¬ (q3.2 76 63) = (3 : Int32)) (σ1 := (37, [some (.ref 76), some (.int x1), some (.int x2)], [], (iq_sh l, q3.2, J, X))) (fun _ => rfl) hc_ ?_
        refine iq_G_go (k := 7) (σ' := (48, [some (.ref 76), some (.int x1), some (.int x2)], [.int x1, .int ((2 : Int32) * (q3.2 76 63)), .ref 108], (iq_sh l, q3.2, J, X))) (fun _ => rfl) ?_
        obtain ⟨hc_, h⟩ := iq_itn h
        refine iq_G_pos (c := iq_in ((2 : Int32) * (q3.2 76 63)) 6) (σ1 := (49, [some (.ref 76), some (.int x1), some (.int x2)], [], (iq_sh l, (iq_upI q3.2 108 (Int32.toNatClampNeg ((2 : Int32) * (q3.2 76 63))) x1), J, X))) (fun _ => rfl) hc_ ?_
        obtain ⟨I4, eI4, h⟩ := ir_letG h
        rw [← eI4]
        clear eI4
        refine iq_G_go (k := 9) (σ' := (62, [some (.ref 76), some (.int x1), some (.int x2)], [.int x2, .int (((2 : Int32) * (I4 76 63)) + (1 : Int32)), .ref 108], (iq_sh l, I4, J, X))) (fun _ => rfl) ?_
        obtain ⟨hc_, h⟩ := iq_itn h
        refine iq_G_pos (c := iq_in (((2 : Int32) * (I4 76 63)) + (1 : Int32)) 6) (σ1 := (63, [some (.ref 76), some (.int x1), some (.int x2)], [], (iq_sh l, (iq_upI I4 108 (Int32.toNatClampNeg (((2 : Int32) * (I4 76 63)) + (1 : Int32))) x2), J, X))) (fun _ => rfl) hc_ ?_
        obtain ⟨I5, eI5, h⟩ := ir_letG h
        rw [← eI5]
        clear eI5
        refine iq_G_go (k := 5) (σ' := (70, [some (.ref 76), some (.int x1), some (.int x2)], [.int ((I5 76 63) + (1 : Int32)), .ref 76], (iq_sh l, I5, J, X))) (fun _ => rfl) ?_
        refine iq_G_go (k := 1) (σ' := (73, [some (.ref 76), some (.int x1), some (.int x2)], [], (iq_sh l, (iq_upI I5 76 63 ((I5 76 63) + (1 : Int32))), J, X))) (fun _ => rfl) ?_
        obtain ⟨I6, eI6, h⟩ := ir_letG h
        rw [← eI6]
        clear eI6
        refine iq_G_go (k := 2) (σ' := (77, [some (.ref 76), some (.int x1), some (.int x2)], [.int (I6 76 63)], (iq_sh l, I6, J, X))) (fun _ => rfl) ?_
        cases h
        exact iq_G_ret (fun _ => rfl)
      · refine iq_G_neg (c := ¬ (q3.2 76 63) = (3 : Int32)) (σ1 := (31, [some (.ref 76), some (.int x1), some (.int x2)], [], (iq_sh l, q3.2, J, X))) (fun _ => rfl) hc_ ?_
        refine iq_G_go (k := 2) (σ' := (33, [some (.ref 76), some (.int x1), some (.int x2)], [.int (2 : Int32), .ref 76], (iq_sh l, q3.2, J, X))) (fun _ => rfl) ?_
        obtain ⟨q7, hq7, h⟩ := iq_bnd h
        refine iq_G_call (σ' := (36, [some (.ref 76), some (.int x1), some (.int x2)], [.int q7.1], (iq_sh l, q7.2, J, X))) (fun _ => rfl) (zM_refuses_ok l (2 : Int32) q3.2 J X hq7) rfl rfl ?_
        cases h
        exact iq_G_ret (fun _ => rfl)
    · refine iq_G_neg (c := ¬ q3.1 = 0) (σ1 := (21, [some (.ref 76), some (.int x1), some (.int x2)], [], (iq_sh l, q3.2, J, X))) (fun _ => rfl) hc_ ?_
      refine iq_G_go (k := 1) (σ' := (22, [some (.ref 76), some (.int x1), some (.int x2)], [.int (0 : Int32)], (iq_sh l, q3.2, J, X))) (fun _ => rfl) ?_
      cases h
      exact iq_G_ret (fun _ => rfl)
set_option maxRecDepth 100000 in
theorem zH_greatestDivisor_l7_bok (l : Nat)  (x0 : Int32) (I : iq_I) (J : iq_J) (X : iq_X) (x2 : Int32) (x3 : Int32) (x4 : Int32)  {q : (Int32 × Int32 × Int32) ⊕ (Int32)} (h : zH_greatestDivisor_l7_b x0 I x2 x3 x4 = some q) (r : iq_R × iq_M) (hc : ∀ v, q = .inl v → iq_Gg 0 27 (7, [some (.int x0), none, some (.int v.1), some (.int v.2.1), some (.int v.2.2), none], [], (iq_sh l, I, J, X)) r) (hx : ∀ w, q = .inr w → iq_Gg 0 27 (33, [none, none, some (.int w), none, none, none], [], (iq_sh l, I, J, X)) r) : iq_Gg 0 27 (7, [some (.int x0), none, some (.int x2), some (.int x3), some (.int x4), none], [], (iq_sh l, I, J, X)) r := by
  unfold zH_greatestDivisor_l7_b at h
  refine iq_G_go (k := 2) (σ' := (10, [some (.int x0), none, some (.int x2), some (.int x3), some (.int x4), none], [.int x0, .int x4], (iq_sh l, I, J, X))) (fun _ => rfl) ?_
  rcases iq_ite h with ⟨hc_, h⟩ | ⟨hc_, h⟩
  · refine iq_G_pos (c := x0 < x4) (σ1 := (33, [some (.int x0), none, some (.int x2), some (.int x3), some (.int x4), none], [], (iq_sh l, I, J, X))) (fun _ => rfl) hc_ ?_
    cases h
    exact iq_G_fg (L := [none, none, some (.int x2), none, none, none]) (And.intro rfl trivial) (hx x2 rfl)
  · refine iq_G_neg (c := x0 < x4) (σ1 := (13, [some (.int x0), none, some (.int x2), some (.int x3), some (.int x4), none], [], (iq_sh l, I, J, X))) (fun _ => rfl) hc_ ?_
    refine iq_G_go (k := 1) (σ' := (14, [some (.int x0), none, some (.int x2), some (.int x3), some (.int x4), none], [.int x3], (iq_sh l, I, J, X))) (fun _ => rfl) ?_
    rcases iq_ite h with ⟨hc_, h⟩ | ⟨hc_, h⟩
    · refine iq_G_pos (c := x3 ≤ 0) (σ1 := (33, [some (.int x0), none, some (.int x2), some (.int x3), some (.int x4), none], [], (iq_sh l, I, J, X))) (fun _ => rfl) hc_ ?_
      cases h
      exact iq_G_fg (L := [none, none, some (.int x2), none, none, none]) (And.intro rfl trivial) (hx x2 rfl)
    · refine iq_G_neg (c := x3 ≤ 0) (σ1 := (17, [some (.int x0), none, some (.int x2), some (.int x3), some (.int x4), none], [], (iq_sh l, I, J, X))) (fun _ => rfl) hc_ ?_
      refine iq_G_go (k := 2) (σ' := (19, [some (.int x0), none, some (.int x2), some (.int x3), some (.int x4), none], [.int x3, .int x2], (iq_sh l, I, J, X))) (fun _ => rfl) ?_
      obtain ⟨hc_, h⟩ := ir_nti h
      refine iq_G_neg (c := x3 = 0) (σ1 := (20, [some (.int x0), none, some (.int x2), some (.int x3), some (.int x4), none], [.int (x2 - x2 / x3 * x3)], (iq_sh l, I, J, X))) (fun _ => rfl) hc_ ?_
      refine iq_G_go (k := 7) (σ' := (7, [some (.int x0), none, some (.int x3), some (.int (x2 - x2 / x3 * x3)), some (.int (x4 + (1 : Int32))), some (.int (x2 - x2 / x3 * x3))], [], (iq_sh l, I, J, X))) (fun _ => rfl) ?_
      cases h
      exact iq_G_fg (L := [some (.int x0), none, some (.int x3), some (.int (x2 - x2 / x3 * x3)), some (.int (x4 + (1 : Int32))), none]) (And.intro rfl (And.intro rfl (And.intro rfl (And.intro rfl trivial)))) (hc (x3, (x2 - x2 / x3 * x3), (x4 + (1 : Int32))) rfl)
set_option maxRecDepth 100000 in
theorem zH_greatestDivisor_l7_ok (l : Nat)  (x0 : Int32) (I : iq_I) (J : iq_J) (X : iq_X) {n : Nat} {v : Int32 × Int32 × Int32} {w : Int32} (h : zH_greatestDivisor_l7 x0 I n v = some w) (r : iq_R × iq_M) (hq : iq_Gg 0 27 (33, [none, none, some (.int w), none, none, none], [], (iq_sh l, I, J, X)) r) : iq_Gg 0 27 (7, [some (.int x0), none, some (.int v.1), some (.int v.2.1), some (.int v.2.2), none], [], (iq_sh l, I, J, X)) r :=
  iq_lp_ok (σ := fun v => (7, [some (.int x0), none, some (.int v.1), some (.int v.2.1), some (.int v.2.2), none], [], (iq_sh l, I, J, X))) (Q := fun w r => iq_Gg 0 27 (33, [none, none, some (.int w), none, none, none], [], (iq_sh l, I, J, X)) r) (fun v q hv r h1 h2 => zH_greatestDivisor_l7_bok l x0 I J X v.1 v.2.1 v.2.2 hv r h1 h2) h r hq
set_option maxRecDepth 100000 in
theorem zH_greatestDivisor_33_ok (l : Nat)  (x2 : Int32) (I : iq_I) (J : iq_J) (X : iq_X)  {q : Int32} (h : zH_greatestDivisor_33 x2 I = some q)  : iq_Gg 0 27 (33, [none, none, some (.int x2), none, none, none], [], (iq_sh l, I, J, X)) (.inl (some (.int q)), (iq_sh l, I, J, X)) := by
  unfold zH_greatestDivisor_33 at h
  refine iq_G_go (k := 3) (σ' := (38, [none, none, some (.int x2), none, none, none], [.int (ir_max (1 : Int32) x2)], (iq_sh l, I, J, X))) (fun _ => rfl) ?_
  cases h
  exact iq_G_ret (fun _ => rfl)
set_option maxRecDepth 100000 in
theorem zH_greatestDivisor_ok (l : Nat)  (x0 : Int32) (x1 : Int32) (I : iq_I) (J : iq_J) (X : iq_X) {q : Int32} (h : zH_greatestDivisor x0 x1 I = some q) : iq_Cc 1 27 [.int x0, .int x1] (iq_sh l, I, J, X) (.inl (some (.int q)), (iq_sh l, I, J, X)) := by
  refine iq_Cc_of (L := [some (.int x0), some (.int x1), none, none, none, none]) rfl rfl ?_
  unfold zH_greatestDivisor at h
  refine iq_G_go (k := 6) (σ' := (7, [some (.int x0), some (.int x1), some (.int x0), some (.int x1), some (.int (0 : Int32)), none], [], (iq_sh l, I, J, X))) (fun _ => rfl) ?_
  obtain ⟨w1, hw1, h⟩ := iq_bnd h
  refine iq_G_fg (L := [some (.int x0), none, some (.int x0), some (.int x1), some (.int (0 : Int32)), none]) (And.intro rfl (And.intro rfl (And.intro rfl (And.intro rfl trivial)))) ?_
  refine zH_greatestDivisor_l7_ok l x0 I J X hw1 _ ?_
  show iq_Gg 0 27 (33, [none, none, some (.int w1), none, none, none], [], (iq_sh l, I, J, X)) _
  exact iq_G_fg (L := [none, none, some (.int w1), none, none, none]) (And.intro rfl trivial) (zH_greatestDivisor_33_ok l w1 I J X  h )
set_option maxRecDepth 100000 in
theorem zH_lowestTerm_27_ok (l : Nat)  (x5 : Int32) (I : iq_I) (J : iq_J) (X : iq_X)  {q : Int32 × iq_I} (h : zH_lowestTerm_27 x5 I = some q)  : iq_Gg 5 26 (27, [none, none, none, none, none, some (.int x5), none, none, none], [], (iq_sh l, I, J, X)) (.inl (some (.int q.1)), (iq_sh l, q.2, J, X)) := by
  unfold zH_lowestTerm_27 at h
  refine iq_G_go (k := 1) (σ' := (29, [none, none, none, none, none, some (.int x5), none, none, none], [.int x5], (iq_sh l, I, J, X))) (fun _ => rfl) ?_
  rcases iq_ite h with ⟨hc_, h⟩ | ⟨hc_, h⟩
  · refine iq_G_pos (c := x5 = 0) (σ1 := (36, [none, none, none, none, none, some (.int x5), none, none, none], [], (iq_sh l, I, J, X))) (fun _ => rfl) hc_ ?_
    refine iq_G_go (k := 1) (σ' := (37, [none, none, none, none, none, some (.int x5), none, none, none], [.int (1 : Int32)], (iq_sh l, I, J, X))) (fun _ => rfl) ?_
    cases h
    exact iq_G_ret (fun _ => rfl)
  · refine iq_G_neg (c := x5 = 0) (σ1 := (32, [none, none, none, none, none, some (.int x5), none, none, none], [], (iq_sh l, I, J, X))) (fun _ => rfl) hc_ ?_
    refine iq_G_go (k := 2) (σ' := (37, [none, none, none, none, none, some (.int x5), none, none, none], [.int (0 : Int32)], (iq_sh l, I, J, X))) (fun _ => rfl) ?_
    cases h
    exact iq_G_ret (fun _ => rfl)
set_option maxRecDepth 100000 in
theorem zH_lowestTerm_59_ok (l : Nat)  (x8 : Int32) (s0 : Int32) (I : iq_I) (J : iq_J) (X : iq_X)  {q : Int32 × iq_I} (h : zH_lowestTerm_59 x8 s0 I = some q)  : iq_Gg 5 26 (59, [none, none, none, none, none, none, none, none, some (.int x8)], [.int s0], (iq_sh l, I, J, X)) (.inl (some (.int q.1)), (iq_sh l, q.2, J, X)) := by
  unfold zH_lowestTerm_59 at h
  refine iq_G_go (k := 1) (σ' := (61, [none, none, none, none, none, none, none, none, some (.int x8)], [.int x8, .int s0], (iq_sh l, I, J, X))) (fun _ => rfl) ?_
  obtain ⟨hc_, h⟩ := ir_nti h
  refine iq_G_neg (c := x8 = 0) (σ1 := (62, [none, none, none, none, none, none, none, none, some (.int x8)], [.int (s0 / x8)], (iq_sh l, I, J, X))) (fun _ => rfl) hc_ ?_
  cases h
  exact iq_G_ret (fun _ => rfl)
set_option maxRecDepth 100000 in
theorem zH_lowestTerm_ok (l : Nat)  (x2 : Int32) (x3 : Int32) (x4 : Int32) (x5 : Int32) (I : iq_I) (J : iq_J) (X : iq_X) {q : Int32 × iq_I} (h : zH_lowestTerm x2 x3 x4 x5 I = some q) : iq_Cc 6 26 [.ref 69, .ref 16, .int x2, .int x3, .int x4, .int x5] (iq_sh l, I, J, X) (.inl (some (.int q.1)), (iq_sh l, q.2, J, X)) := by
  refine iq_Cc_of (L := [some (.ref 69), some (.ref 16), some (.int x2), some (.int x3), some (.int x4), some (.int x5), none, none, none]) rfl rfl ?_
  unfold zH_lowestTerm at h
  refine iq_G_go (k := 4) (σ' := (4, [some (.ref 69), some (.ref 16), some (.int x2), some (.int x3), some (.int x4), some (.int x5), none, none, none], [.int x3, .int x2, .ref 16, .ref 69], (iq_sh l, I, J, X))) (fun _ => rfl) ?_
  obtain ⟨q1, hq1, h⟩ := iq_bnd h
  refine iq_G_call (σ' := (7, [some (.ref 69), some (.ref 16), some (.int x2), some (.int x3), some (.int x4), some (.int x5), none, none, none], [.int q1.1], (iq_sh l, q1.2, J, X))) (fun _ => rfl) (zH_weigh_69_16_ok l x2 x3 I J X hq1) rfl rfl ?_
  refine iq_G_go (k := 3) (σ' := (12, [some (.ref 69), some (.ref 16), some (.int x2), some (.int x3), some (.int x4), some (.int x5), some (.int q1.1), none, none], [.int x4, .ref 69], (iq_sh l, q1.2, J, X))) (fun _ => rfl) ?_
  obtain ⟨q2, hq2, h⟩ := iq_bnd h
  refine iq_G_call (σ' := (15, [some (.ref 69), some (.ref 16), some (.int x2), some (.int x3), some (.int x4), some (.int x5), some (.int q1.1), none, none], [.int q2], (iq_sh l, q1.2, J, X))) (fun _ => rfl) (zH_weightOf_ok l x4 q1.2 J X hq2) rfl rfl ?_
  refine iq_G_go (k := 2) (σ' := (19, [some (.ref 69), some (.ref 16), some (.int x2), some (.int x3), some (.int x4), some (.int x5), some (.int q1.1), some (.int q2), none], [.int q2], (iq_sh l, q1.2, J, X))) (fun _ => rfl) ?_
  rcases iq_ite h with ⟨hc_, h⟩ | ⟨hc_, h⟩
  · refine iq_G_pos (c := q2 = 0) (σ1 := (27, [some (.ref 69), some (.ref 16), some (.int x2), some (.int x3), some (.int x4), some (.int x5), some (.int q1.1), some (.int q2), none], [], (iq_sh l, q1.2, J, X))) (fun _ => rfl) hc_ ?_
    exact iq_G_fg (L := [none, none, none, none, none, some (.int x5), none, none, none]) (And.intro rfl trivial) (zH_lowestTerm_27_ok l x5 q1.2 J X  h )
  · refine iq_G_neg (c := q2 = 0) (σ1 := (22, [some (.ref 69), some (.ref 16), some (.int x2), some (.int x3), some (.int x4), some (.int x5), some (.int q1.1), some (.int q2), none], [], (iq_sh l, q1.2, J, X))) (fun _ => rfl) hc_ ?_
    refine iq_G_go (k := 1) (σ' := (24, [some (.ref 69), some (.ref 16), some (.int x2), some (.int x3), some (.int x4), some (.int x5), some (.int q1.1), some (.int q2), none], [.int q1.1], (iq_sh l, q1.2, J, X))) (fun _ => rfl) ?_
    rcases iq_ite h with ⟨hc_, h⟩ | ⟨hc_, h⟩
    · refine iq_G_pos (c := ¬ q1.1 = 0) (σ1 := (38, [some (.ref 69), some (.ref 16), some (.int x2), some (.int x3), some (.int x4), some (.int x5), some (.int q1.1), some (.int q2), none], [], (iq_sh l, q1.2, J, X))) (fun _ => rfl) hc_ ?_
      refine iq_G_go (k := 2) (σ' := (42, [some (.ref 69), some (.ref 16), some (.int x2), some (.int x3), some (.int x4), some (.int x5), some (.int q1.1), some (.int q2), none], [.int q2, .int q1.1], (iq_sh l, q1.2, J, X))) (fun _ => rfl) ?_
      obtain ⟨q3, hq3, h⟩ := iq_bnd h
      refine iq_G_call (σ' := (45, [some (.ref 69), some (.ref 16), some (.int x2), some (.int x3), some (.int x4), some (.int x5), some (.int q1.1), some (.int q2), none], [.int q3], (iq_sh l, q1.2, J, X))) (fun _ => rfl) (zH_greatestDivisor_ok l q1.1 q2 q1.2 J X hq3) rfl rfl ?_
      refine iq_G_go (k := 2) (σ' := (49, [some (.ref 69), some (.ref 16), some (.int x2), some (.int x3), some (.int x4), some (.int x5), some (.int q1.1), some (.int q2), some (.int q3)], [.int x5], (iq_sh l, q1.2, J, X))) (fun _ => rfl) ?_
      rcases iq_ite h with ⟨hc_, h⟩ | ⟨hc_, h⟩
      · refine iq_G_pos (c := x5 = 0) (σ1 := (57, [some (.ref 69), some (.ref 16), some (.int x2), some (.int x3), some (.int x4), some (.int x5), some (.int q1.1), some (.int q2), some (.int q3)], [], (iq_sh l, q1.2, J, X))) (fun _ => rfl) hc_ ?_
        refine iq_G_go (k := 1) (σ' := (59, [some (.ref 69), some (.ref 16), some (.int x2), some (.int x3), some (.int x4), some (.int x5), some (.int q1.1), some (.int q2), some (.int q3)], [.int q1.1], (iq_sh l, q1.2, J, X))) (fun _ => rfl) ?_
        exact iq_G_fg (L := [none, none, none, none, none, none, none, none, some (.int q3)]) (And.intro rfl trivial) (zH_lowestTerm_59_ok l q3 q1.1 q1.2 J X  h )
      · refine iq_G_neg (c := x5 = 0) (σ1 := (52, [some (.ref 69), some (.ref 16), some (.int x2), some (.int x3), some (.int x4), some (.int x5), some (.int q1.1), some (.int q2), some (.int q3)], [], (iq_sh l, q1.2, J, X))) (fun _ => rfl) hc_ ?_
        refine iq_G_go (k := 2) (σ' := (59, [some (.ref 69), some (.ref 16), some (.int x2), some (.int x3), some (.int x4), some (.int x5), some (.int q1.1), some (.int q2), some (.int q3)], [.int q2], (iq_sh l, q1.2, J, X))) (fun _ => rfl) ?_
        exact iq_G_fg (L := [none, none, none, none, none, none, none, none, some (.int q3)]) (And.intro rfl trivial) (zH_lowestTerm_59_ok l q3 q2 q1.2 J X  h )
    · refine iq_G_neg (c := ¬ q1.1 = 0) (σ1 := (27, [some (.ref 69), some (.ref 16), some (.int x2), some (.int x3), some (.int x4), some (.int x5), some (.int q1.1), some (.int q2), none], [], (iq_sh l, q1.2, J, X))) (fun _ => rfl) hc_ ?_
      exact iq_G_fg (L := [none, none, none, none, none, some (.int x5), none, none, none]) (And.intro rfl trivial) (zH_lowestTerm_27_ok l x5 q1.2 J X  h )
set_option maxRecDepth 100000 in
theorem zO_odds_18_ok (l : Nat)   (I : iq_I) (J : iq_J) (X : iq_X)  {q : (Int32 ⊕ Nat) × iq_I × iq_X} (h : zO_odds_18 I X = some q)  : iq_Gg 6 170 (18, [none, none, none, none, none], [], (iq_sh l, I, J, X)) ((ir_Ri q.1), (iq_sh l, q.2.1, J, q.2.2)) := by
  unfold zO_odds_18 at h
  cases h
  exact iq_G_ret (fun _ => rfl)
set_option maxRecDepth 100000 in
theorem zO_odds_66_ok (l : Nat)  (s2 : Int32) (s3 : Int32) (s4 : Int32) (s5 : Int32) (I : iq_I) (J : iq_J) (X : iq_X)  {q : (Int32 ⊕ Nat) × iq_I × iq_X} (h : zO_odds_66 s2 s3 s4 s5 I X = some q)  : iq_Gg 6 170 (66, [none, none, none, none, none], [.int s5, .int s4, .int s3, .int s2, .ref 16, .ref 69], (iq_sh l, I, J, X)) ((ir_Ri q.1), (iq_sh l, q.2.1, J, q.2.2)) := by
  unfold zO_odds_66 at h
  obtain ⟨q10, hq10, h⟩ := iq_bnd h
  refine iq_G_call (σ' := (69, [none, none, none, none, none], [.int q10.1], (iq_sh l, q10.2, J, X))) (fun _ => rfl) (zH_lowestTerm_ok l s2 s3 s4 s5 I J X hq10) rfl rfl ?_
  cases h
  exact iq_G_ret (fun _ => rfl)
set_option maxRecDepth 100000 in
theorem zO_odds_ok (l : Nat)  (x1 : Int32) (x2 : Int32) (x3 : Int32) (x4 : Int32) (I : iq_I) (J : iq_J) (X : iq_X) {q : (Int32 ⊕ Nat) × iq_I × iq_X} (h : zO_odds x1 x2 x3 x4 I X = some q) : iq_Cc 7 170 [.ref 1, .int x1, .int x2, .int x3, .int x4] (iq_sh l, I, J, X) ((ir_Ri q.1), (iq_sh l, q.2.1, J, q.2.2)) := by
  refine iq_Cc_of (L := [some (.ref 1), some (.int x1), some (.int x2), some (.int x3), some (.int x4)]) rfl rfl ?_
  unfold zO_odds at h
  refine iq_G_go (k := 1) (σ' := (1, [some (.ref 1), some (.int x1), some (.int x2), some (.int x3), some (.int x4)], [.int x1], (iq_sh l, I, J, X))) (fun _ => rfl) ?_
  rcases iq_ite h with ⟨hc_, h⟩ | ⟨hc_, h⟩
  · refine iq_G_pos (c := x1 < 0) (σ1 := (18, [some (.ref 1), some (.int x1), some (.int x2), some (.int x3), some (.int x4)], [], (iq_sh l, I, J, X))) (fun _ => rfl) hc_ ?_
    exact iq_G_fg (L := [none, none, none, none, none]) trivial (zO_odds_18_ok l I J X  h )
  · refine iq_G_neg (c := x1 < 0) (σ1 := (4, [some (.ref 1), some (.int x1), some (.int x2), some (.int x3), some (.int x4)], [], (iq_sh l, I, J, X))) (fun _ => rfl) hc_ ?_
    refine iq_G_go (k := 5) (σ' := (15, [some (.ref 1), some (.int x1), some (.int x2), some (.int x3), some (.int x4)], [.int (I 8 0), .int x1], (iq_sh l, I, J, X))) (fun _ => rfl) ?_
    rcases iq_ite h with ⟨hc_, h⟩ | ⟨hc_, h⟩
    · refine iq_G_pos (c := x1 < (I 8 0)) (σ1 := (29, [some (.ref 1), some (.int x1), some (.int x2), some (.int x3), some (.int x4)], [], (iq_sh l, I, J, X))) (fun _ => rfl) hc_ ?_
      refine iq_G_go (k := 2) (σ' := (31, [some (.ref 1), some (.int x1), some (.int x2), some (.int x3), some (.int x4)], [.int x2, .ref 1], (iq_sh l, I, J, X))) (fun _ => rfl) ?_
      obtain ⟨q1, hq1, h⟩ := iq_bnd h
      have hC := (zO_needSaying_ok l x2 I J X hq1)
      rcases iq_smc h with ⟨a2, ha, h⟩ | ⟨k3, ha, h⟩
      · rw [ha] at hC
        refine iq_G_call (σ' := (34, [some (.ref 1), some (.int x1), some (.int x2), some (.int x3), some (.int x4)], [], (iq_sh l, I, J, q1.2))) (fun _ => rfl) hC rfl rfl ?_
        refine iq_G_go (k := 2) (σ' := (36, [some (.ref 1), some (.int x1), some (.int x2), some (.int x3), some (.int x4)], [.int x3, .ref 1], (iq_sh l, I, J, q1.2))) (fun _ => rfl) ?_
        obtain ⟨q4, hq4, h⟩ := iq_bnd h
        have hC := (zO_needWord_ok l x3 I J q1.2 hq4)
        rcases iq_smc h with ⟨a5, ha, h⟩ | ⟨k6, ha, h⟩
        · rw [ha] at hC
          refine iq_G_call (σ' := (39, [some (.ref 1), some (.int x1), some (.int x2), some (.int x3), some (.int x4)], [], (iq_sh l, I, J, q4.2))) (fun _ => rfl) hC rfl rfl ?_
          refine iq_G_go (k := 2) (σ' := (42, [some (.ref 1), some (.int x1), some (.int x2), some (.int x3), some (.int x4)], [.int x4, .ref 1], (iq_sh l, I, J, q4.2))) (fun _ => rfl) ?_
          obtain ⟨q7, hq7, h⟩ := iq_bnd h
          have hC := (zO_needOneOfTwo_ok l x4 I J q4.2 hq7)
          rcases iq_smc h with ⟨a8, ha, h⟩ | ⟨k9, ha, h⟩
          · rw [ha] at hC
            refine iq_G_call (σ' := (45, [some (.ref 1), some (.int x1), some (.int x2), some (.int x3), some (.int x4)], [], (iq_sh l, I, J, q7.2))) (fun _ => rfl) hC rfl rfl ?_
            refine iq_G_go (k := 8) (σ' := (58, [some (.ref 1), some (.int x1), some (.int x2), some (.int x3), some (.int x4)], [.int x4, .int x3, .int x2, .int x1, .ref 16, .ref 69], (iq_sh l, I, J, q7.2))) (fun _ => rfl) ?_
            rcases iq_ite h with ⟨hc_, h⟩ | ⟨hc_, h⟩
            · refine iq_G_pos (c := ¬ x4 = 0) (σ1 := (65, [some (.ref 1), some (.int x1), some (.int x2), some (.int x3), some (.int x4)], [.int x3, .int x2, .int x1, .ref 16, .ref 69], (iq_sh l, I, J, q7.2))) (fun _ => rfl) hc_ ?_
              refine iq_G_go (k := 1) (σ' := (66, [some (.ref 1), some (.int x1), some (.int x2), some (.int x3), some (.int x4)], [.int (0 : Int32), .int x3, .int x2, .int x1, .ref 16, .ref 69], (iq_sh l, I, J, q7.2))) (fun _ => rfl) ?_
              exact iq_G_fg (L := [none, none, none, none, none]) trivial (zO_odds_66_ok l x1 x2 x3 (0 : Int32) I J q7.2  h )
            · refine iq_G_neg (c := ¬ x4 = 0) (σ1 := (61, [some (.ref 1), some (.int x1), some (.int x2), some (.int x3), some (.int x4)], [.int x3, .int x2, .int x1, .ref 16, .ref 69], (iq_sh l, I, J, q7.2))) (fun _ => rfl) hc_ ?_
              refine iq_G_go (k := 2) (σ' := (66, [some (.ref 1), some (.int x1), some (.int x2), some (.int x3), some (.int x4)], [.int (1 : Int32), .int x3, .int x2, .int x1, .ref 16, .ref 69], (iq_sh l, I, J, q7.2))) (fun _ => rfl) ?_
              exact iq_G_fg (L := [none, none, none, none, none]) trivial (zO_odds_66_ok l x1 x2 x3 (1 : Int32) I J q7.2  h )
          · rw [ha] at hC
            cases h
            exact iq_G_callx (fun _ => rfl) hC rfl rfl
        · rw [ha] at hC
          cases h
          exact iq_G_callx (fun _ => rfl) hC rfl rfl
      · rw [ha] at hC
        cases h
        exact iq_G_callx (fun _ => rfl) hC rfl rfl
    · refine iq_G_neg (c := x1 < (I 8 0)) (σ1 := (18, [some (.ref 1), some (.int x1), some (.int x2), some (.int x3), some (.int x4)], [], (iq_sh l, I, J, X))) (fun _ => rfl) hc_ ?_
      exact iq_G_fg (L := [none, none, none, none, none]) trivial (zO_odds_18_ok l I J X  h )
set_option maxRecDepth 100000 in
theorem zL_odds_ok (l : Nat)  (x1 : Int32) (x2 : Int32) (x3 : Int32) (x4 : Int32) (I : iq_I) (J : iq_J) (X : iq_X) {q : Int32 × iq_I × iq_J × iq_X} (h : zL_odds x1 x2 x3 x4 I J X = some q) : iq_Cc 8 341 [.ref 1, .int x1, .int x2, .int x3, .int x4, .ref 114] (iq_sh l, I, J, X) (.inl (some (.int q.1)), (iq_sh l, q.2.1, q.2.2.1, q.2.2.2)) := by
  refine iq_Cc_of (L := [some (.ref 1), some (.int x1), some (.int x2), some (.int x3), some (.int x4), some (.ref 114), none]) rfl rfl ?_
  unfold zL_odds at h
  refine iq_G_go (k := 7) (σ' := (9, [some (.ref 1), some (.int x1), some (.int x2), some (.int x3), some (.int x4), some (.ref 114), none], [.int x4, .int x3, .int x2, .int x1, .ref 1, .int (0 : Int32), .ref 114], (iq_sh l, I, J, X))) (fun _ => rfl) ?_
  obtain ⟨q1, hq1, h⟩ := iq_bnd h
  have hC := (zO_odds_ok l x1 x2 x3 x4 I J X hq1)
  rcases iq_smc h with ⟨a2, ha, h⟩ | ⟨k3, ha, h⟩
  · rw [ha] at hC
    refine iq_G_call (σ' := (12, [some (.ref 1), some (.int x1), some (.int x2), some (.int x3), some (.int x4), some (.ref 114), none], [.int a2, .int (0 : Int32), .ref 114], (iq_sh l, q1.2.1, J, q1.2.2))) (fun _ => rfl) hC rfl rfl ?_
    refine iq_G_go (k := 1) (σ' := (13, [some (.ref 1), some (.int x1), some (.int x2), some (.int x3), some (.int x4), some (.ref 114), none], [.long (Int32.toInt64 a2), .int (0 : Int32), .ref 114], (iq_sh l, q1.2.1, J, q1.2.2))) (fun _ => rfl) ?_
    refine iq_G_go (k := 1) (σ' := (14, [some (.ref 1), some (.int x1), some (.int x2), some (.int x3), some (.int x4), some (.ref 114), none], [], (iq_sh l, q1.2.1, (iq_upJ J 114 0 (Int32.toInt64 a2)), q1.2.2))) (fun _ => rfl) ?_
    obtain ⟨J4, eJ4, h⟩ := ir_letG h
    rw [← eJ4]
    clear eJ4
    refine iq_G_go (k := 2) (σ' := (22, [some (.ref 1), some (.int x1), some (.int x2), some (.int x3), some (.int x4), some (.ref 114), none], [.int (0 : Int32)], (iq_sh l, q1.2.1, J4, q1.2.2))) (fun _ => rfl) ?_
    cases h
    exact iq_G_ret (fun _ => rfl)
  · rw [ha] at hC
    rcases iq_ite h with ⟨e, h⟩ | ⟨_, h⟩
    · subst e
      refine iq_G_call (σ' := (19, [some (.ref 1), some (.int x1), some (.int x2), some (.int x3), some (.int x4), some (.ref 114), none], [], (iq_sh l, q1.2.1, J, q1.2.2))) (fun _ => rfl) hC rfl rfl ?_
      refine iq_G_go (k := 1) (σ' := (20, [some (.ref 1), some (.int x1), some (.int x2), some (.int x3), some (.int x4), some (.ref 114), none], [.int (1 : Int32)], (iq_sh l, q1.2.1, J, q1.2.2))) (fun _ => rfl) ?_
      cases h
      exact iq_G_ret (fun _ => rfl)
    · obtain ⟨e, h⟩ := iq_itn h
      cases h
set_option maxRecDepth 100000 in
theorem zM_odds_23_ok (l : Nat)  (x1 : Int32) (x2 : Int32) (x3 : Int32) (x4 : Int32) (s1 : Int32) (I : iq_I) (J : iq_J) (X : iq_X)  {q : Int32 × iq_I} (h : zM_odds_23 x1 x2 x3 x4 s1 I = some q)  : iq_Gg 7 286 (23, [some (.ref 76), some (.int x1), some (.int x2), some (.int x3), some (.int x4)], [.int s1, .ref 76], (iq_sh l, I, J, X)) (.inl (some (.int q.1)), (iq_sh l, q.2, J, X)) := by
  unfold zM_odds_23 at h
  refine iq_G_go (k := 1) (σ' := (24, [some (.ref 76), some (.int x1), some (.int x2), some (.int x3), some (.int x4)], [.int (1 : Int32), .int s1, .ref 76], (iq_sh l, I, J, X))) (fun _ => rfl) ?_
  obtain ⟨q2, hq2, h⟩ := iq_bnd h
  refine iq_G_call (σ' := (27, [some (.ref 76), some (.int x1), some (.int x2), some (.int x3), some (.int x4)], [.int q2.1], (iq_sh l, q2.2, J, X))) (fun _ => rfl) (zM_right_ok l s1 (1 : Int32) I J X hq2) rfl rfl ?_
  rcases iq_ite h with ⟨hc_, h⟩ | ⟨hc_, h⟩
  · refine iq_G_pos (c := q2.1 = 0) (σ1 := (68, [some (.ref 76), some (.int x1), some (.int x2), some (.int x3), some (.int x4)], [], (iq_sh l, q2.2, J, X))) (fun _ => rfl) hc_ ?_
    refine iq_G_go (k := 1) (σ' := (69, [some (.ref 76), some (.int x1), some (.int x2), some (.int x3), some (.int x4)], [.int (0 : Int32)], (iq_sh l, q2.2, J, X))) (fun _ => rfl) ?_
    cases h
    exact iq_G_ret (fun _ => rfl)
  · refine iq_G_neg (c := q2.1 = 0) (σ1 := (30, [some (.ref 76), some (.int x1), some (.int x2), some (.int x3), some (.int x4)], [], (iq_sh l, q2.2, J, X))) (fun _ => rfl) hc_ ?_
    refine iq_G_go (k := 2) (σ' := (32, [some (.ref 76), some (.int x1), some (.int x2), some (.int x3), some (.int x4)], [.int x2, .ref 76], (iq_sh l, q2.2, J, X))) (fun _ => rfl) ?_
    obtain ⟨q3, hq3, h⟩ := iq_bnd h
    refine iq_G_call (σ' := (35, [some (.ref 76), some (.int x1), some (.int x2), some (.int x3), some (.int x4)], [.int q3.1], (iq_sh l, q3.2, J, X))) (fun _ => rfl) (zM_isSaying_ok l x2 q2.2 J X hq3) rfl rfl ?_
    rcases iq_ite h with ⟨hc_, h⟩ | ⟨hc_, h⟩
    · refine iq_G_pos (c := q3.1 = 0) (σ1 := (68, [some (.ref 76), some (.int x1), some (.int x2), some (.int x3), some (.int x4)], [], (iq_sh l, q3.2, J, X))) (fun _ => rfl) hc_ ?_
      refine iq_G_go (k := 1) (σ' := (69, [some (.ref 76), some (.int x1), some (.int x2), some (.int x3), some (.int x4)], [.int (0 : Int32)], (iq_sh l, q3.2, J, X))) (fun _ => rfl) ?_
      cases h
      exact iq_G_ret (fun _ => rfl)
    · refine iq_G_neg (c := q3.1 = 0) (σ1 := (38, [some (.ref 76), some (.int x1), some (.int x2), some (.int x3), some (.int x4)], [], (iq_sh l, q3.2, J, X))) (fun _ => rfl) hc_ ?_
      refine iq_G_go (k := 2) (σ' := (40, [some (.ref 76), some (.int x1), some (.int x2), some (.int x3), some (.int x4)], [.int x3, .ref 76], (iq_sh l, q3.2, J, X))) (fun _ => rfl) ?_
      obtain ⟨q4, hq4, h⟩ := iq_bnd h
      refine iq_G_call (σ' := (43, [some (.ref 76), some (.int x1), some (.int x2), some (.int x3), some (.int x4)], [.int q4.1], (iq_sh l, q4.2, J, X))) (fun _ => rfl) (zM_isWord_ok l x3 q3.2 J X hq4) rfl rfl ?_
      rcases iq_ite h with ⟨hc_, h⟩ | ⟨hc_, h⟩
      · refine iq_G_pos (c := q4.1 = 0) (σ1 := (68, [some (.ref 76), some (.int x1), some (.int x2), some (.int x3), some (.int x4)], [], (iq_sh l, q4.2, J, X))) (fun _ => rfl) hc_ ?_
        refine iq_G_go (k := 1) (σ' := (69, [some (.ref 76), some (.int x1), some (.int x2), some (.int x3), some (.int x4)], [.int (0 : Int32)], (iq_sh l, q4.2, J, X))) (fun _ => rfl) ?_
        cases h
        exact iq_G_ret (fun _ => rfl)
      · refine iq_G_neg (c := q4.1 = 0) (σ1 := (46, [some (.ref 76), some (.int x1), some (.int x2), some (.int x3), some (.int x4)], [], (iq_sh l, q4.2, J, X))) (fun _ => rfl) hc_ ?_
        refine iq_G_go (k := 3) (σ' := (50, [some (.ref 76), some (.int x1), some (.int x2), some (.int x3), some (.int x4)], [.int (1 : Int32), .int x4, .ref 76], (iq_sh l, q4.2, J, X))) (fun _ => rfl) ?_
        obtain ⟨q5, hq5, h⟩ := iq_bnd h
        refine iq_G_call (σ' := (53, [some (.ref 76), some (.int x1), some (.int x2), some (.int x3), some (.int x4)], [.int q5.1], (iq_sh l, q5.2, J, X))) (fun _ => rfl) (zM_isWhat_ok l x4 (1 : Int32) q4.2 J X hq5) rfl rfl ?_
        rcases iq_ite h with ⟨hc_, h⟩ | ⟨hc_, h⟩
        · refine iq_G_pos (c := q5.1 = 0) (σ1 := (68, [some (.ref 76), some (.int x1), some (.int x2), some (.int x3), some (.int x4)], [], (iq_sh l, q5.2, J, X))) (fun _ => rfl) hc_ ?_
          refine iq_G_go (k := 1) (σ' := (69, [some (.ref 76), some (.int x1), some (.int x2), some (.int x3), some (.int x4)], [.int (0 : Int32)], (iq_sh l, q5.2, J, X))) (fun _ => rfl) ?_
          cases h
          exact iq_G_ret (fun _ => rfl)
        · refine iq_G_neg (c := q5.1 = 0) (σ1 := (56, [some (.ref 76), some (.int x1), some (.int x2), some (.int x3), some (.int x4)], [], (iq_sh l, q5.2, J, X))) (fun _ => rfl) hc_ ?_
          refine iq_G_go (k := 5) (σ' := (62, [some (.ref 76), some (.int x1), some (.int x2), some (.int x3), some (.int x4)], [.int x4, .int x3, .int x2, .int x1, .ref 76], (iq_sh l, q5.2, J, X))) (fun _ => rfl) ?_
          obtain ⟨q6, hq6, h⟩ := iq_bnd h
          refine iq_G_call (σ' := (65, [some (.ref 76), some (.int x1), some (.int x2), some (.int x3), some (.int x4)], [.int q6.1], (iq_sh l, q6.2, J, X))) (fun _ => rfl) (zM_oddsOf_ok l x1 x2 x3 x4 q5.2 J X hq6) rfl rfl ?_
          refine iq_G_go (k := 1) (σ' := (69, [some (.ref 76), some (.int x1), some (.int x2), some (.int x3), some (.int x4)], [.int q6.1], (iq_sh l, q6.2, J, X))) (fun _ => rfl) ?_
          cases h
          exact iq_G_ret (fun _ => rfl)
set_option maxRecDepth 100000 in
theorem zM_odds_22_ok (l : Nat)  (x1 : Int32) (x2 : Int32) (x3 : Int32) (x4 : Int32) (I : iq_I) (J : iq_J) (X : iq_X)  {q : Int32 × iq_I} (h : zM_odds_22 x1 x2 x3 x4 I = some q)  : iq_Gg 7 286 (22, [some (.ref 76), some (.int x1), some (.int x2), some (.int x3), some (.int x4)], [.ref 76], (iq_sh l, I, J, X)) (.inl (some (.int q.1)), (iq_sh l, q.2, J, X)) := by
  unfold zM_odds_22 at h
  refine iq_G_go (k := 1) (σ' := (23, [some (.ref 76), some (.int x1), some (.int x2), some (.int x3), some (.int x4)], [.int (0 : Int32), .ref 76], (iq_sh l, I, J, X))) (fun _ => rfl) ?_
  exact iq_G_fg (L := [some (.ref 76), some (.int x1), some (.int x2), some (.int x3), some (.int x4)]) (And.intro rfl (And.intro rfl (And.intro rfl (And.intro rfl (And.intro rfl trivial))))) (zM_odds_23_ok l x1 x2 x3 x4 (0 : Int32) I J X  h )
set_option maxRecDepth 100000 in
theorem zM_odds_ok (l : Nat)  (x1 : Int32) (x2 : Int32) (x3 : Int32) (x4 : Int32) (I : iq_I) (J : iq_J) (X : iq_X) {q : Int32 × iq_I} (h : zM_odds x1 x2 x3 x4 I = some q) : iq_Cc 8 286 [.ref 76, .int x1, .int x2, .int x3, .int x4] (iq_sh l, I, J, X) (.inl (some (.int q.1)), (iq_sh l, q.2, J, X)) := by
  refine iq_Cc_of (L := [some (.ref 76), some (.int x1), some (.int x2), some (.int x3), some (.int x4)]) rfl rfl ?_
  unfold zM_odds at h
  refine iq_G_go (k := 2) (σ' := (2, [some (.ref 76), some (.int x1), some (.int x2), some (.int x3), some (.int x4)], [.int (0 : Int32), .ref 76], (iq_sh l, I, J, X))) (fun _ => rfl) ?_
  refine iq_G_go (k := 1) (σ' := (5, [some (.ref 76), some (.int x1), some (.int x2), some (.int x3), some (.int x4)], [], (iq_sh l, (iq_upI I 76 0 (0 : Int32)), J, X))) (fun _ => rfl) ?_
  obtain ⟨I1, eI1, h⟩ := ir_letG h
  rw [← eI1]
  clear eI1
  refine iq_G_go (k := 2) (σ' := (7, [some (.ref 76), some (.int x1), some (.int x2), some (.int x3), some (.int x4)], [.int x1, .ref 76], (iq_sh l, I1, J, X))) (fun _ => rfl) ?_
  rcases iq_ite h with ⟨hc_, h⟩ | ⟨hc_, h⟩
  · refine iq_G_pos (c := x1 < 0) (σ1 := (22, [some (.ref 76), some (.int x1), some (.int x2), some (.int x3), some (.int x4)], [.ref 76], (iq_sh l, I1, J, X))) (fun _ => rfl) hc_ ?_
    exact iq_G_fg (L := [some (.ref 76), some (.int x1), some (.int x2), some (.int x3), some (.int x4)]) (And.intro rfl (And.intro rfl (And.intro rfl (And.intro rfl (And.intro rfl trivial))))) (zM_odds_22_ok l x1 x2 x3 x4 I1 J X  h )
  · refine iq_G_neg (c := x1 < 0) (σ1 := (10, [some (.ref 76), some (.int x1), some (.int x2), some (.int x3), some (.int x4)], [.ref 76], (iq_sh l, I1, J, X))) (fun _ => rfl) hc_ ?_
    refine iq_G_go (k := 3) (σ' := (15, [some (.ref 76), some (.int x1), some (.int x2), some (.int x3), some (.int x4)], [.int (I1 76 4), .int x1, .ref 76], (iq_sh l, I1, J, X))) (fun _ => rfl) ?_
    rcases iq_ite h with ⟨hc_, h⟩ | ⟨hc_, h⟩
    · refine iq_G_pos (c := (I1 76 4) ≤ x1) (σ1 := (22, [some (.ref 76), some (.int x1), some (.int x2), some (.int x3), some (.int x4)], [.ref 76], (iq_sh l, I1, J, X))) (fun _ => rfl) hc_ ?_
      exact iq_G_fg (L := [some (.ref 76), some (.int x1), some (.int x2), some (.int x3), some (.int x4)]) (And.intro rfl (And.intro rfl (And.intro rfl (And.intro rfl (And.intro rfl trivial))))) (zM_odds_22_ok l x1 x2 x3 x4 I1 J X  h )
    · refine iq_G_neg (c := (I1 76 4) ≤ x1) (σ1 := (18, [some (.ref 76), some (.int x1), some (.int x2), some (.int x3), some (.int x4)], [.ref 76], (iq_sh l, I1, J, X))) (fun _ => rfl) hc_ ?_
      refine iq_G_go (k := 2) (σ' := (23, [some (.ref 76), some (.int x1), some (.int x2), some (.int x3), some (.int x4)], [.int (1 : Int32), .ref 76], (iq_sh l, I1, J, X))) (fun _ => rfl) ?_
      exact iq_G_fg (L := [some (.ref 76), some (.int x1), some (.int x2), some (.int x3), some (.int x4)]) (And.intro rfl (And.intro rfl (And.intro rfl (And.intro rfl (And.intro rfl trivial))))) (zM_odds_23_ok l x1 x2 x3 x4 (1 : Int32) I1 J X  h )
set_option maxRecDepth 100000 in
theorem zS_J6_bitCount_0f7a4_ok (l : Nat)  (x0 : Int32) (I : iq_I) (J : iq_J) (X : iq_X) {q : Int32} (h : zS_J6_bitCount_0f7a4 x0 I = some q) : iq_Cc 1 311 [.int x0] (iq_sh l, I, J, X) (.inl (some (.int q)), (iq_sh l, I, J, X)) := by
  refine iq_Cc_of (L := [some (.int x0)]) rfl rfl ?_
  unfold zS_J6_bitCount_0f7a4 at h
  refine iq_G_go (k := 41) (σ' := (52, [some (.int (((((((x0 - ((ir_ushr x0 (1 : Int32)) &&& (1431655765 : Int32))) &&& (858993459 : Int32)) + ((ir_ushr (x0 - ((ir_ushr x0 (1 : Int32)) &&& (1431655765 : Int32))) (2 : Int32)) &&& (858993459 : Int32))) + (ir_ushr (((x0 - ((ir_ushr x0 (1 : Int32)) &&& (1431655765 : Int32))) &&& (858993459 : Int32)) + ((ir_ushr (x0 - ((ir_ushr x0 (1 : Int32)) &&& (1431655765 : Int32))) (2 : Int32)) &&& (858993459 : Int32))) (4 : Int32))) &&& (252645135 : Int32)) + (ir_ushr (((((x0 - ((ir_ushr x0 (1 : Int32)) &&& (1431655765 : Int32))) &&& (858993459 : Int32)) + ((ir_ushr (x0 - ((ir_ushr x0 (1 : Int32)) &&& (1431655765 : Int32))) (2 : Int32)) &&& (858993459 : Int32))) + (ir_ushr (((x0 - ((ir_ushr x0 (1 : Int32)) &&& (1431655765 : Int32))) &&& (858993459 : Int32)) + ((ir_ushr (x0 - ((ir_ushr x0 (1 : Int32)) &&& (1431655765 : Int32))) (2 : Int32)) &&& (858993459 : Int32))) (4 : Int32))) &&& (252645135 : Int32)) (8 : Int32))) + (ir_ushr ((((((x0 - ((ir_ushr x0 (1 : Int32)) &&& (1431655765 : Int32))) &&& (858993459 : Int32)) + ((ir_ushr (x0 - ((ir_ushr x0 (1 : Int32)) &&& (1431655765 : Int32))) (2 : Int32)) &&& (858993459 : Int32))) + (ir_ushr (((x0 - ((ir_ushr x0 (1 : Int32)) &&& (1431655765 : Int32))) &&& (858993459 : Int32)) + ((ir_ushr (x0 - ((ir_ushr x0 (1 : Int32)) &&& (1431655765 : Int32))) (2 : Int32)) &&& (858993459 : Int32))) (4 : Int32))) &&& (252645135 : Int32)) + (ir_ushr (((((x0 - ((ir_ushr x0 (1 : Int32)) &&& (1431655765 : Int32))) &&& (858993459 : Int32)) + ((ir_ushr (x0 - ((ir_ushr x0 (1 : Int32)) &&& (1431655765 : Int32))) (2 : Int32)) &&& (858993459 : Int32))) + (ir_ushr (((x0 - ((ir_ushr x0 (1 : Int32)) &&& (1431655765 : Int32))) &&& (858993459 : Int32)) + ((ir_ushr (x0 - ((ir_ushr x0 (1 : Int32)) &&& (1431655765 : Int32))) (2 : Int32)) &&& (858993459 : Int32))) (4 : Int32))) &&& (252645135 : Int32)) (8 : Int32))) (16 : Int32))))], [.int ((((((((x0 - ((ir_ushr x0 (1 : Int32)) &&& (1431655765 : Int32))) &&& (858993459 : Int32)) + ((ir_ushr (x0 - ((ir_ushr x0 (1 : Int32)) &&& (1431655765 : Int32))) (2 : Int32)) &&& (858993459 : Int32))) + (ir_ushr (((x0 - ((ir_ushr x0 (1 : Int32)) &&& (1431655765 : Int32))) &&& (858993459 : Int32)) + ((ir_ushr (x0 - ((ir_ushr x0 (1 : Int32)) &&& (1431655765 : Int32))) (2 : Int32)) &&& (858993459 : Int32))) (4 : Int32))) &&& (252645135 : Int32)) + (ir_ushr (((((x0 - ((ir_ushr x0 (1 : Int32)) &&& (1431655765 : Int32))) &&& (858993459 : Int32)) + ((ir_ushr (x0 - ((ir_ushr x0 (1 : Int32)) &&& (1431655765 : Int32))) (2 : Int32)) &&& (858993459 : Int32))) + (ir_ushr (((x0 - ((ir_ushr x0 (1 : Int32)) &&& (1431655765 : Int32))) &&& (858993459 : Int32)) + ((ir_ushr (x0 - ((ir_ushr x0 (1 : Int32)) &&& (1431655765 : Int32))) (2 : Int32)) &&& (858993459 : Int32))) (4 : Int32))) &&& (252645135 : Int32)) (8 : Int32))) + (ir_ushr ((((((x0 - ((ir_ushr x0 (1 : Int32)) &&& (1431655765 : Int32))) &&& (858993459 : Int32)) + ((ir_ushr (x0 - ((ir_ushr x0 (1 : Int32)) &&& (1431655765 : Int32))) (2 : Int32)) &&& (858993459 : Int32))) + (ir_ushr (((x0 - ((ir_ushr x0 (1 : Int32)) &&& (1431655765 : Int32))) &&& (858993459 : Int32)) + ((ir_ushr (x0 - ((ir_ushr x0 (1 : Int32)) &&& (1431655765 : Int32))) (2 : Int32)) &&& (858993459 : Int32))) (4 : Int32))) &&& (252645135 : Int32)) + (ir_ushr (((((x0 - ((ir_ushr x0 (1 : Int32)) &&& (1431655765 : Int32))) &&& (858993459 : Int32)) + ((ir_ushr (x0 - ((ir_ushr x0 (1 : Int32)) &&& (1431655765 : Int32))) (2 : Int32)) &&& (858993459 : Int32))) + (ir_ushr (((x0 - ((ir_ushr x0 (1 : Int32)) &&& (1431655765 : Int32))) &&& (858993459 : Int32)) + ((ir_ushr (x0 - ((ir_ushr x0 (1 : Int32)) &&& (1431655765 : Int32))) (2 : Int32)) &&& (858993459 : Int32))) (4 : Int32))) &&& (252645135 : Int32)) (8 : Int32))) (16 : Int32))) &&& (63 : Int32))], (iq_sh l, I, J, X))) (fun _ => rfl) ?_
  cases h
  exact iq_G_ret (fun _ => rfl)
set_option maxRecDepth 100000 in
theorem zP_allStates_ok (l : Nat)   (I : iq_I) (J : iq_J) (X : iq_X) {q : Int32} (h : zP_allStates I = some q) : iq_Cc 1 54 [.ref 63] (iq_sh l, I, J, X) (.inl (some (.int q)), (iq_sh l, I, J, X)) := by
  refine iq_Cc_of (L := [some (.ref 63)]) rfl rfl ?_
  unfold zP_allStates at h
  refine iq_G_go (k := 7) (σ' := (11, [some (.ref 63)], [.int (((1 : Int32) <<< ((I 4 0) &&& 31)) - (1 : Int32))], (iq_sh l, I, J, X))) (fun _ => rfl) ?_
  cases h
  exact iq_G_ret (fun _ => rfl)
set_option maxRecDepth 100000 in
theorem zP_leadingInto_l5_bok (l : Nat)  (x1 : Int32) (x2 : Int32) (I : iq_I) (J : iq_J) (X : iq_X) (x3 : Int32) (x4 : Int32)  {q : (Int32 × Int32) ⊕ (Int32)} (h : zP_leadingInto_l5_b x1 x2 I x3 x4 = some q) (r : iq_R × iq_M) (hc : ∀ v, q = .inl v → iq_Gg 0 57 (5, [some (.ref 63), some (.int x1), some (.int x2), some (.int v.1), some (.int v.2)], [], (iq_sh l, I, J, X)) r) (hx : ∀ w, q = .inr w → iq_Gg 0 57 (51, [none, none, none, some (.int w), none], [], (iq_sh l, I, J, X)) r) : iq_Gg 0 57 (5, [some (.ref 63), some (.int x1), some (.int x2), some (.int x3), some (.int x4)], [], (iq_sh l, I, J, X)) r := by
  unfold zP_leadingInto_l5_b at h
  refine iq_G_go (k := 4) (σ' := (14, [some (.ref 63), some (.int x1), some (.int x2), some (.int x3), some (.int x4)], [.int (I 4 0), .int x4], (iq_sh l, I, J, X))) (fun _ => rfl) ?_
  rcases iq_ite h with ⟨hc_, h⟩ | ⟨hc_, h⟩
  · refine iq_G_pos (c := (I 4 0) ≤ x4) (σ1 := (51, [some (.ref 63), some (.int x1), some (.int x2), some (.int x3), some (.int x4)], [], (iq_sh l, I, J, X))) (fun _ => rfl) hc_ ?_
    cases h
    exact iq_G_fg (L := [none, none, none, some (.int x3), none]) (And.intro rfl trivial) (hx x3 rfl)
  · refine iq_G_neg (c := (I 4 0) ≤ x4) (σ1 := (17, [some (.ref 63), some (.int x1), some (.int x2), some (.int x3), some (.int x4)], [], (iq_sh l, I, J, X))) (fun _ => rfl) hc_ ?_
    refine iq_G_go (k := 5) (σ' := (23, [some (.ref 63), some (.int x1), some (.int x2), some (.int x3), some (.int x4)], [.int ((x1 >>> (x4 &&& 31)) &&& (1 : Int32))], (iq_sh l, I, J, X))) (fun _ => rfl) ?_
    rcases iq_ite h with ⟨hc_, h⟩ | ⟨hc_, h⟩
    · refine iq_G_pos (c := ((x1 >>> (x4 &&& 31)) &&& (1 : Int32)) = 0) (σ1 := (45, [some (.ref 63), some (.int x1), some (.int x2), some (.int x3), some (.int x4)], [], (iq_sh l, I, J, X))) (fun _ => rfl) hc_ ?_
      refine iq_G_go (k := 2) (σ' := (5, [some (.ref 63), some (.int x1), some (.int x2), some (.int x3), some (.int (x4 + (1 : Int32)))], [], (iq_sh l, I, J, X))) (fun _ => rfl) ?_
      cases h
      exact iq_G_fg (L := [some (.ref 63), some (.int x1), some (.int x2), some (.int x3), some (.int (x4 + (1 : Int32)))]) (And.intro rfl (And.intro rfl (And.intro rfl (And.intro rfl (And.intro rfl trivial))))) (hc (x3, (x4 + (1 : Int32))) rfl)
    · refine iq_G_neg (c := ((x1 >>> (x4 &&& 31)) &&& (1 : Int32)) = 0) (σ1 := (26, [some (.ref 63), some (.int x1), some (.int x2), some (.int x3), some (.int x4)], [], (iq_sh l, I, J, X))) (fun _ => rfl) hc_ ?_
      refine iq_G_go (k := 3) (σ' := (32, [some (.ref 63), some (.int x1), some (.int x2), some (.int x3), some (.int x4)], [.int x4, .ref 64], (iq_sh l, I, J, X))) (fun _ => rfl) ?_
      obtain ⟨hc_, h⟩ := iq_itn h
      refine iq_G_pos (c := iq_in x4 10) (σ1 := (33, [some (.ref 63), some (.int x1), some (.int x2), some (.int x3), some (.int x4)], [.int (I 64 (Int32.toNatClampNeg x4))], (iq_sh l, I, J, X))) (fun _ => rfl) hc_ ?_
      refine iq_G_go (k := 2) (σ' := (35, [some (.ref 63), some (.int x1), some (.int x2), some (.int x3), some (.int x4)], [.int ((I 64 (Int32.toNatClampNeg x4)) &&& x2)], (iq_sh l, I, J, X))) (fun _ => rfl) ?_
      rcases iq_ite h with ⟨hc_, h⟩ | ⟨hc_, h⟩
      · refine iq_G_pos (c := ((I 64 (Int32.toNatClampNeg x4)) &&& x2) = 0) (σ1 := (45, [some (.ref 63), some (.int x1), some (.int x2), some (.int x3), some (.int x4)], [], (iq_sh l, I, J, X))) (fun _ => rfl) hc_ ?_
        refine iq_G_go (k := 2) (σ' := (5, [some (.ref 63), some (.int x1), some (.int x2), some (.int x3), some (.int (x4 + (1 : Int32)))], [], (iq_sh l, I, J, X))) (fun _ => rfl) ?_
        cases h
        exact iq_G_fg (L := [some (.ref 63), some (.int x1), some (.int x2), some (.int x3), some (.int (x4 + (1 : Int32)))]) (And.intro rfl (And.intro rfl (And.intro rfl (And.intro rfl (And.intro rfl trivial))))) (hc (x3, (x4 + (1 : Int32))) rfl)
      · refine iq_G_neg (c := ((I 64 (Int32.toNatClampNeg x4)) &&& x2) = 0) (σ1 := (38, [some (.ref 63), some (.int x1), some (.int x2), some (.int x3), some (.int x4)], [], (iq_sh l, I, J, X))) (fun _ => rfl) hc_ ?_
        refine iq_G_go (k := 8) (σ' := (5, [some (.ref 63), some (.int x1), some (.int x2), some (.int (x3 ||| ((1 : Int32) <<< (x4 &&& 31)))), some (.int (x4 + (1 : Int32)))], [], (iq_sh l, I, J, X))) (fun _ => rfl) ?_
        cases h
        exact iq_G_fg (L := [some (.ref 63), some (.int x1), some (.int x2), some (.int (x3 ||| ((1 : Int32) <<< (x4 &&& 31)))), some (.int (x4 + (1 : Int32)))]) (And.intro rfl (And.intro rfl (And.intro rfl (And.intro rfl (And.intro rfl trivial))))) (hc ((x3 ||| ((1 : Int32) <<< (x4 &&& 31))), (x4 + (1 : Int32))) rfl)
set_option maxRecDepth 100000 in
theorem zP_leadingInto_l5_ok (l : Nat)  (x1 : Int32) (x2 : Int32) (I : iq_I) (J : iq_J) (X : iq_X) {n : Nat} {v : Int32 × Int32} {w : Int32} (h : zP_leadingInto_l5 x1 x2 I n v = some w) (r : iq_R × iq_M) (hq : iq_Gg 0 57 (51, [none, none, none, some (.int w), none], [], (iq_sh l, I, J, X)) r) : iq_Gg 0 57 (5, [some (.ref 63), some (.int x1), some (.int x2), some (.int v.1), some (.int v.2)], [], (iq_sh l, I, J, X)) r :=
  iq_lp_ok (σ := fun v => (5, [some (.ref 63), some (.int x1), some (.int x2), some (.int v.1), some (.int v.2)], [], (iq_sh l, I, J, X))) (Q := fun w r => iq_Gg 0 57 (51, [none, none, none, some (.int w), none], [], (iq_sh l, I, J, X)) r) (fun v q hv r h1 h2 => zP_leadingInto_l5_bok l x1 x2 I J X v.1 v.2 hv r h1 h2) h r hq
set_option maxRecDepth 100000 in
theorem zP_leadingInto_ok (l : Nat)  (x1 : Int32) (x2 : Int32) (I : iq_I) (J : iq_J) (X : iq_X) {q : Int32} (h : zP_leadingInto x1 x2 I = some q) : iq_Cc 1 57 [.ref 63, .int x1, .int x2] (iq_sh l, I, J, X) (.inl (some (.int q)), (iq_sh l, I, J, X)) := by
  refine iq_Cc_of (L := [some (.ref 63), some (.int x1), some (.int x2), none, none]) rfl rfl ?_
  unfold zP_leadingInto at h
  refine iq_G_go (k := 4) (σ' := (5, [some (.ref 63), some (.int x1), some (.int x2), some (.int (0 : Int32)), some (.int (0 : Int32))], [], (iq_sh l, I, J, X))) (fun _ => rfl) ?_
  obtain ⟨w1, hw1, h⟩ := iq_bnd h
  refine iq_G_fg (L := [some (.ref 63), some (.int x1), some (.int x2), some (.int (0 : Int32)), some (.int (0 : Int32))]) (And.intro rfl (And.intro rfl (And.intro rfl (And.intro rfl (And.intro rfl trivial))))) ?_
  refine zP_leadingInto_l5_ok l x1 x2 I J X hw1 _ ?_
  show iq_Gg 0 57 (51, [none, none, none, some (.int w1), none], [], (iq_sh l, I, J, X)) _
  refine iq_G_go (k := 1) (σ' := (52, [none, none, none, some (.int w1), none], [.int w1], (iq_sh l, I, J, X))) (fun _ => rfl) ?_
  cases h
  exact iq_G_ret (fun _ => rfl)
set_option maxRecDepth 100000 in
theorem zP_endless_l12_bok (l : Nat)   (I : iq_I) (J : iq_J) (X : iq_X) (x2 : Int32) (x3 : Int32)  {q : (Int32 × Int32) ⊕ ((Int32) ⊕ (Int32 × iq_I))} (h : zP_endless_l12_b I x2 x3 = some q) (r : iq_R × iq_M) (hc : ∀ v, q = .inl v → iq_Gg 2 79 (12, [some (.ref 63), none, some (.int v.1), some (.int v.2), none], [], (iq_sh l, I, J, X)) r) (hx : ∀ w, q = .inr w → (∀ a, w = .inl a → iq_Gg 2 79 (48, [none, none, some (.int a), none, none], [], (iq_sh l, I, J, X)) r) ∧ (∀ b, w = .inr b → r = (.inl (some (.int b.1)), (iq_sh l, b.2, J, X)))) : iq_Gg 2 79 (12, [some (.ref 63), none, some (.int x2), some (.int x3), none], [], (iq_sh l, I, J, X)) r := by
  unfold zP_endless_l12_b at h
  refine iq_G_go (k := 4) (σ' := (20, [some (.ref 63), none, some (.int x2), some (.int x3), none], [.int (I 4 0), .int x3], (iq_sh l, I, J, X))) (fun _ => rfl) ?_
  rcases iq_ite h with ⟨hc_, h⟩ | ⟨hc_, h⟩
  · refine iq_G_pos (c := (I 4 0) ≤ x3) (σ1 := (48, [some (.ref 63), none, some (.int x2), some (.int x3), none], [], (iq_sh l, I, J, X))) (fun _ => rfl) hc_ ?_
    cases h
    exact iq_G_fg (L := [none, none, some (.int x2), none, none]) (And.intro rfl trivial) ((hx (.inl x2) rfl).1 x2 rfl)
  · refine iq_G_neg (c := (I 4 0) ≤ x3) (σ1 := (23, [some (.ref 63), none, some (.int x2), some (.int x3), none], [], (iq_sh l, I, J, X))) (fun _ => rfl) hc_ ?_
    refine iq_G_go (k := 3) (σ' := (26, [some (.ref 63), none, some (.int x2), some (.int x3), none], [.int x2, .int x2, .ref 63], (iq_sh l, I, J, X))) (fun _ => rfl) ?_
    obtain ⟨q3, hq3, h⟩ := iq_bnd h
    refine iq_G_call (σ' := (29, [some (.ref 63), none, some (.int x2), some (.int x3), none], [.int q3], (iq_sh l, I, J, X))) (fun _ => rfl) (zP_leadingInto_ok l x2 x2 I J X hq3) rfl rfl ?_
    refine iq_G_go (k := 3) (σ' := (34, [some (.ref 63), none, some (.int x2), some (.int x3), some (.int q3)], [.int x2, .int q3], (iq_sh l, I, J, X))) (fun _ => rfl) ?_
    rcases iq_ite h with ⟨hc_, h⟩ | ⟨hc_, h⟩
    · refine iq_G_pos (c := ¬ q3 = x2) (σ1 := (39, [some (.ref 63), none, some (.int x2), some (.int x3), some (.int q3)], [], (iq_sh l, I, J, X))) (fun _ => rfl) hc_ ?_
      refine iq_G_go (k := 4) (σ' := (12, [some (.ref 63), none, some (.int q3), some (.int (x3 + (1 : Int32))), some (.int q3)], [], (iq_sh l, I, J, X))) (fun _ => rfl) ?_
      cases h
      exact iq_G_fg (L := [some (.ref 63), none, some (.int q3), some (.int (x3 + (1 : Int32))), none]) (And.intro rfl (And.intro rfl (And.intro rfl trivial))) (hc (q3, (x3 + (1 : Int32))) rfl)
    · refine iq_G_neg (c := ¬ q3 = x2) (σ1 := (37, [some (.ref 63), none, some (.int x2), some (.int x3), some (.int q3)], [], (iq_sh l, I, J, X))) (fun _ => rfl) hc_ ?_
      refine iq_G_go (k := 1) (σ' := (38, [some (.ref 63), none, some (.int x2), some (.int x3), some (.int q3)], [.int x2], (iq_sh l, I, J, X))) (fun _ => rfl) ?_
      cases h
      obtain rfl := (hx _ rfl).2 _ rfl
      exact iq_G_ret (fun _ => rfl)
set_option maxRecDepth 100000 in
theorem zP_endless_l12_ok (l : Nat)   (I : iq_I) (J : iq_J) (X : iq_X) {n : Nat} {v : Int32 × Int32} {w : (Int32) ⊕ (Int32 × iq_I)} (h : zP_endless_l12 I n v = some w) (r : iq_R × iq_M) (hq : (∀ a, w = .inl a → iq_Gg 2 79 (48, [none, none, some (.int a), none, none], [], (iq_sh l, I, J, X)) r) ∧ (∀ b, w = .inr b → r = (.inl (some (.int b.1)), (iq_sh l, b.2, J, X)))) : iq_Gg 2 79 (12, [some (.ref 63), none, some (.int v.1), some (.int v.2), none], [], (iq_sh l, I, J, X)) r :=
  iq_lp_ok (σ := fun v => (12, [some (.ref 63), none, some (.int v.1), some (.int v.2), none], [], (iq_sh l, I, J, X))) (Q := fun w r => (∀ a, w = .inl a → iq_Gg 2 79 (48, [none, none, some (.int a), none, none], [], (iq_sh l, I, J, X)) r) ∧ (∀ b, w = .inr b → r = (.inl (some (.int b.1)), (iq_sh l, b.2, J, X)))) (fun v q hv r h1 h2 => zP_endless_l12_bok l I J X v.1 v.2 hv r h1 h2) h r hq
set_option maxRecDepth 100000 in
theorem zP_endless_ok (l : Nat)  (x1 : Int32) (I : iq_I) (J : iq_J) (X : iq_X) {q : Int32 × iq_I} (h : zP_endless x1 I = some q) : iq_Cc 3 79 [.ref 63, .int x1] (iq_sh l, I, J, X) (.inl (some (.int q.1)), (iq_sh l, q.2, J, X)) := by
  refine iq_Cc_of (L := [some (.ref 63), some (.int x1), none, none, none]) rfl rfl ?_
  unfold zP_endless at h
  refine iq_G_go (k := 2) (σ' := (2, [some (.ref 63), some (.int x1), none, none, none], [.int x1, .ref 63], (iq_sh l, I, J, X))) (fun _ => rfl) ?_
  obtain ⟨q1, hq1, h⟩ := iq_bnd h
  refine iq_G_call (σ' := (5, [some (.ref 63), some (.int x1), none, none, none], [], (iq_sh l, q1, J, X))) (fun _ => rfl) (zP_lookBehind_ok l x1 I J X hq1) rfl rfl ?_
  refine iq_G_go (k := 1) (σ' := (6, [some (.ref 63), some (.int x1), none, none, none], [.ref 63], (iq_sh l, q1, J, X))) (fun _ => rfl) ?_
  obtain ⟨q2, hq2, h⟩ := iq_bnd h
  refine iq_G_call (σ' := (9, [some (.ref 63), some (.int x1), none, none, none], [.int q2], (iq_sh l, q1, J, X))) (fun _ => rfl) (zP_allStates_ok l  q1 J X hq2) rfl rfl ?_
  refine iq_G_go (k := 3) (σ' := (12, [some (.ref 63), some (.int x1), some (.int q2), some (.int (0 : Int32)), none], [], (iq_sh l, q1, J, X))) (fun _ => rfl) ?_
  obtain ⟨w4, hw4, h⟩ := iq_bnd h
  refine iq_G_fg (L := [some (.ref 63), none, some (.int q2), some (.int (0 : Int32)), none]) (And.intro rfl (And.intro rfl (And.intro rfl trivial))) ?_
  refine zP_endless_l12_ok l q1 J X hw4 _ ⟨fun a5 ha => ?_, fun b6 hb => ?_⟩
  · subst ha
    replace h := ir_smL h
    show iq_Gg 2 79 (48, [none, none, some (.int a5), none, none], [], (iq_sh l, q1, J, X)) _
    refine iq_G_go (k := 1) (σ' := (49, [none, none, some (.int a5), none, none], [.int a5], (iq_sh l, q1, J, X))) (fun _ => rfl) ?_
    cases h
    exact iq_G_ret (fun _ => rfl)
  · subst hb
    replace h := ir_smR h
    cases h
    rfl
set_option maxRecDepth 100000 in
theorem zP_closingKinds_l4_bok (l : Nat)   (I : iq_I) (J : iq_J) (X : iq_X) (x2 : Int32) (x3 : Int32)  {q : (Int32 × Int32) ⊕ (Int32)} (h : zP_closingKinds_l4_b I x2 x3 = some q) (r : iq_R × iq_M) (hc : ∀ v, q = .inl v → iq_Gg 3 78 (4, [some (.ref 63), some (.ref 16), some (.int v.1), some (.int v.2), none], [], (iq_sh l, I, J, X)) r) (hx : ∀ w, q = .inr w → iq_Gg 3 78 (42, [some (.ref 63), none, some (.int w), none, none], [], (iq_sh l, I, J, X)) r) : iq_Gg 3 78 (4, [some (.ref 63), some (.ref 16), some (.int x2), some (.int x3), none], [], (iq_sh l, I, J, X)) r := by
  unfold zP_closingKinds_l4_b at h
  refine iq_G_go (k := 3) (σ' := (9, [some (.ref 63), some (.ref 16), some (.int x2), some (.int x3), none], [.int (I 16 0), .int x3], (iq_sh l, I, J, X))) (fun _ => rfl) ?_
  rcases iq_ite h with ⟨hc_, h⟩ | ⟨hc_, h⟩
  · refine iq_G_pos (c := (I 16 0) ≤ x3) (σ1 := (42, [some (.ref 63), some (.ref 16), some (.int x2), some (.int x3), none], [], (iq_sh l, I, J, X))) (fun _ => rfl) hc_ ?_
    cases h
    exact iq_G_fg (L := [some (.ref 63), none, some (.int x2), none, none]) (And.intro rfl (And.intro rfl trivial)) (hx x2 rfl)
  · refine iq_G_neg (c := (I 16 0) ≤ x3) (σ1 := (12, [some (.ref 63), some (.ref 16), some (.int x2), some (.int x3), none], [], (iq_sh l, I, J, X))) (fun _ => rfl) hc_ ?_
    refine iq_G_go (k := 4) (σ' := (18, [some (.ref 63), some (.ref 16), some (.int x2), some (.int x3), none], [.int x3, .ref 16, .ref 4], (iq_sh l, I, J, X))) (fun _ => rfl) ?_
    obtain ⟨q1, hq1, h⟩ := iq_bnd h
    refine iq_G_call (σ' := (21, [some (.ref 63), some (.ref 16), some (.int x2), some (.int x3), none], [.int q1], (iq_sh l, I, J, X))) (fun _ => rfl) (zU_stateOf_4_16_ok l x3 I J X hq1) rfl rfl ?_
    refine iq_G_go (k := 3) (σ' := (26, [some (.ref 63), some (.ref 16), some (.int x2), some (.int x3), some (.int q1)], [.int (-1 : Int32), .int q1], (iq_sh l, I, J, X))) (fun _ => rfl) ?_
    rcases iq_ite h with ⟨hc_, h⟩ | ⟨hc_, h⟩
    · refine iq_G_pos (c := q1 = (-1 : Int32)) (σ1 := (36, [some (.ref 63), some (.ref 16), some (.int x2), some (.int x3), some (.int q1)], [], (iq_sh l, I, J, X))) (fun _ => rfl) hc_ ?_
      refine iq_G_go (k := 2) (σ' := (4, [some (.ref 63), some (.ref 16), some (.int x2), some (.int (x3 + (1 : Int32))), some (.int q1)], [], (iq_sh l, I, J, X))) (fun _ => rfl) ?_
      cases h
      exact iq_G_fg (L := [some (.ref 63), some (.ref 16), some (.int x2), some (.int (x3 + (1 : Int32))), none]) (And.intro rfl (And.intro rfl (And.intro rfl (And.intro rfl trivial)))) (hc (x2, (x3 + (1 : Int32))) rfl)
    · refine iq_G_neg (c := q1 = (-1 : Int32)) (σ1 := (29, [some (.ref 63), some (.ref 16), some (.int x2), some (.int x3), some (.int q1)], [], (iq_sh l, I, J, X))) (fun _ => rfl) hc_ ?_
      refine iq_G_go (k := 8) (σ' := (4, [some (.ref 63), some (.ref 16), some (.int (x2 ||| ((1 : Int32) <<< (q1 &&& 31)))), some (.int (x3 + (1 : Int32))), some (.int q1)], [], (iq_sh l, I, J, X))) (fun _ => rfl) ?_
      cases h
      exact iq_G_fg (L := [some (.ref 63), some (.ref 16), some (.int (x2 ||| ((1 : Int32) <<< (q1 &&& 31)))), some (.int (x3 + (1 : Int32))), none]) (And.intro rfl (And.intro rfl (And.intro rfl (And.intro rfl trivial)))) (hc ((x2 ||| ((1 : Int32) <<< (q1 &&& 31))), (x3 + (1 : Int32))) rfl)
set_option maxRecDepth 100000 in
theorem zP_closingKinds_l4_ok (l : Nat)   (I : iq_I) (J : iq_J) (X : iq_X) {n : Nat} {v : Int32 × Int32} {w : Int32} (h : zP_closingKinds_l4 I n v = some w) (r : iq_R × iq_M) (hq : iq_Gg 3 78 (42, [some (.ref 63), none, some (.int w), none, none], [], (iq_sh l, I, J, X)) r) : iq_Gg 3 78 (4, [some (.ref 63), some (.ref 16), some (.int v.1), some (.int v.2), none], [], (iq_sh l, I, J, X)) r :=
  iq_lp_ok (σ := fun v => (4, [some (.ref 63), some (.ref 16), some (.int v.1), some (.int v.2), none], [], (iq_sh l, I, J, X))) (Q := fun w r => iq_Gg 3 78 (42, [some (.ref 63), none, some (.int w), none, none], [], (iq_sh l, I, J, X)) r) (fun v q hv r h1 h2 => zP_closingKinds_l4_bok l I J X v.1 v.2 hv r h1 h2) h r hq
set_option maxRecDepth 100000 in
theorem zP_closingKinds_l53_bok (l : Nat)  (x2 : Int32) (x3 : Int32) (J : iq_J) (X : iq_X) (x4 : Int32) (I : iq_I) {q : (Int32 × iq_I) ⊕ ((iq_I) ⊕ (Int32 × iq_I))} (h : zP_closingKinds_l53_b x2 x3 x4 I = some q) (r : iq_R × iq_M) (hc : ∀ v, q = .inl v → iq_Gg 3 78 (53, [some (.ref 63), none, some (.int x2), some (.int x3), some (.int v.1)], [], (iq_sh l, v.2, J, X)) r) (hx : ∀ w, q = .inr w → (∀ a, w = .inl a → iq_Gg 3 78 (105, [some (.ref 63), none, some (.int x2), some (.int x3), none], [], (iq_sh l, a, J, X)) r) ∧ (∀ b, w = .inr b → r = (.inl (some (.int b.1)), (iq_sh l, b.2, J, X)))) : iq_Gg 3 78 (53, [some (.ref 63), none, some (.int x2), some (.int x3), some (.int x4)], [], (iq_sh l, I, J, X)) r := by
  unfold zP_closingKinds_l53_b at h
  refine iq_G_go (k := 2) (σ' := (58, [some (.ref 63), none, some (.int x2), some (.int x3), some (.int x4)], [.int (256 : Int32), .int x4], (iq_sh l, I, J, X))) (fun _ => rfl) ?_
  rcases iq_ite h with ⟨hc_, h⟩ | ⟨hc_, h⟩
  · refine iq_G_pos (c := (256 : Int32) ≤ x4) (σ1 := (105, [some (.ref 63), none, some (.int x2), some (.int x3), some (.int x4)], [], (iq_sh l, I, J, X))) (fun _ => rfl) hc_ ?_
    cases h
    exact iq_G_fg (L := [some (.ref 63), none, some (.int x2), some (.int x3), none]) (And.intro rfl (And.intro rfl (And.intro rfl trivial))) ((hx (.inl I) rfl).1 I rfl)
  · refine iq_G_neg (c := (256 : Int32) ≤ x4) (σ1 := (61, [some (.ref 63), none, some (.int x2), some (.int x3), some (.int x4)], [], (iq_sh l, I, J, X))) (fun _ => rfl) hc_ ?_
    refine iq_G_go (k := 1) (σ' := (63, [some (.ref 63), none, some (.int x2), some (.int x3), some (.int x4)], [.int x4], (iq_sh l, I, J, X))) (fun _ => rfl) ?_
    obtain ⟨q3, hq3, h⟩ := iq_bnd h
    refine iq_G_call (σ' := (66, [some (.ref 63), none, some (.int x2), some (.int x3), some (.int x4)], [.int q3], (iq_sh l, I, J, X))) (fun _ => rfl) (zS_J6_bitCount_0f7a4_ok l x4 I J X hq3) rfl rfl ?_
    refine iq_G_go (k := 1) (σ' := (67, [some (.ref 63), none, some (.int x2), some (.int x3), some (.int x4)], [.int x3, .int q3], (iq_sh l, I, J, X))) (fun _ => rfl) ?_
    rcases iq_ite h with ⟨hc_, h⟩ | ⟨hc_, h⟩
    · refine iq_G_pos (c := ¬ q3 = x3) (σ1 := (99, [some (.ref 63), none, some (.int x2), some (.int x3), some (.int x4)], [], (iq_sh l, I, J, X))) (fun _ => rfl) hc_ ?_
      refine iq_G_go (k := 2) (σ' := (53, [some (.ref 63), none, some (.int x2), some (.int x3), some (.int (x4 + (1 : Int32)))], [], (iq_sh l, I, J, X))) (fun _ => rfl) ?_
      cases h
      exact iq_G_fg (L := [some (.ref 63), none, some (.int x2), some (.int x3), some (.int (x4 + (1 : Int32)))]) (And.intro rfl (And.intro rfl (And.intro rfl (And.intro rfl trivial)))) (hc ((x4 + (1 : Int32)), I) rfl)
    · refine iq_G_neg (c := ¬ q3 = x3) (σ1 := (70, [some (.ref 63), none, some (.int x2), some (.int x3), some (.int x4)], [], (iq_sh l, I, J, X))) (fun _ => rfl) hc_ ?_
      refine iq_G_go (k := 7) (σ' := (82, [some (.ref 63), none, some (.int x2), some (.int x3), some (.int x4)], [.int (x4 &&& ((I 4 4) ^^^ (-1 : Int32)))], (iq_sh l, I, J, X))) (fun _ => rfl) ?_
      rcases iq_ite h with ⟨hc_, h⟩ | ⟨hc_, h⟩
      · have st_ : ∀ (z_0 : Int32) (r_ : iq_R × iq_M), ¬ z_0 = 0 → iq_Gg 3 78 (99, [some (.ref 63), none, some (.int x2), some (.int x3), some (.int x4)], [], (iq_sh l, I, J, X)) r_ → iq_Gg 3 78 (82, [some (.ref 63), none, some (.int x2), some (.int x3), some (.int x4)], [.int z_0], (iq_sh l, I, J, X)) r_ := fun z_0 r_ hc_ hg_ => iq_G_pos (c := ¬ z_0 = 0) (σ1 := (99, [some (.ref 63), none, some (.int x2), some (.int x3), some (.int x4)], [], (iq_sh l, I, J, X))) (fun _ => rfl) hc_ hg_
        refine st_ (x4 &&& ((I 4 4) ^^^ (-1 : Int32))) _ hc_ ?_
        clear st_
        refine iq_G_go (k := 2) (σ' := (53, [some (.ref 63), none, some (.int x2), some (.int x3), some (.int (x4 + (1 : Int32)))], [], (iq_sh l, I, J, X))) (fun _ => rfl) ?_
        cases h
        exact iq_G_fg (L := [some (.ref 63), none, some (.int x2), some (.int x3), some (.int (x4 + (1 : Int32)))]) (And.intro rfl (And.intro rfl (And.intro rfl (And.intro rfl trivial)))) (hc ((x4 + (1 : Int32)), I) rfl)
      · have st_ : ∀ (z_0 : Int32) (r_ : iq_R × iq_M), ¬ (¬ z_0 = 0) → iq_Gg 3 78 (85, [some (.ref 63), none, some (.int x2), some (.int x3), some (.int x4)], [], (iq_sh l, I, J, X)) r_ → iq_Gg 3 78 (82, [some (.ref 63), none, some (.int x2), some (.int x3), some (.int x4)], [.int z_0], (iq_sh l, I, J, X)) r_ := fun z_0 r_ hc_ hg_ => iq_G_neg (c := ¬ z_0 = 0) (σ1 := (85, [some (.ref 63), none, some (.int x2), some (.int x3), some (.int x4)], [], (iq_sh l, I, J, X))) (fun _ => rfl) hc_ hg_
        refine st_ (x4 &&& ((I 4 4) ^^^ (-1 : Int32))) _ hc_ ?_
        clear st_
        refine iq_G_go (k := 2) (σ' := (88, [some (.ref 63), none, some (.int x2), some (.int x3), some (.int x4)], [.int x4, .ref 63], (iq_sh l, I, J, X))) (fun _ => rfl) ?_
        obtain ⟨q4, hq4, h⟩ := iq_bnd h
        refine iq_G_call (σ' := (91, [some (.ref 63), none, some (.int x2), some (.int x3), some (.int x4)], [.int q4.1], (iq_sh l, q4.2, J, X))) (fun _ => rfl) (zP_endless_ok l x4 I J X hq4) rfl rfl ?_
        refine iq_G_go (k := 2) (σ' := (93, [some (.ref 63), none, some (.int x2), some (.int x3), some (.int x4)], [.int (q4.1 &&& x2)], (iq_sh l, q4.2, J, X))) (fun _ => rfl) ?_
        rcases iq_ite h with ⟨hc_, h⟩ | ⟨hc_, h⟩
        · refine iq_G_pos (c := ¬ (q4.1 &&& x2) = 0) (σ1 := (99, [some (.ref 63), none, some (.int x2), some (.int x3), some (.int x4)], [], (iq_sh l, q4.2, J, X))) (fun _ => rfl) hc_ ?_
          refine iq_G_go (k := 2) (σ' := (53, [some (.ref 63), none, some (.int x2), some (.int x3), some (.int (x4 + (1 : Int32)))], [], (iq_sh l, q4.2, J, X))) (fun _ => rfl) ?_
          cases h
          exact iq_G_fg (L := [some (.ref 63), none, some (.int x2), some (.int x3), some (.int (x4 + (1 : Int32)))]) (And.intro rfl (And.intro rfl (And.intro rfl (And.intro rfl trivial)))) (hc ((x4 + (1 : Int32)), q4.2) rfl)
        · refine iq_G_neg (c := ¬ (q4.1 &&& x2) = 0) (σ1 := (96, [some (.ref 63), none, some (.int x2), some (.int x3), some (.int x4)], [], (iq_sh l, q4.2, J, X))) (fun _ => rfl) hc_ ?_
          refine iq_G_go (k := 1) (σ' := (98, [some (.ref 63), none, some (.int x2), some (.int x3), some (.int x4)], [.int x4], (iq_sh l, q4.2, J, X))) (fun _ => rfl) ?_
          cases h
          obtain rfl := (hx _ rfl).2 _ rfl
          exact iq_G_ret (fun _ => rfl)
set_option maxRecDepth 100000 in
theorem zP_closingKinds_l53_ok (l : Nat)  (x2 : Int32) (x3 : Int32) (J : iq_J) (X : iq_X) {n : Nat} {v : Int32 × iq_I} {w : (iq_I) ⊕ (Int32 × iq_I)} (h : zP_closingKinds_l53 x2 x3 n v = some w) (r : iq_R × iq_M) (hq : (∀ a, w = .inl a → iq_Gg 3 78 (105, [some (.ref 63), none, some (.int x2), some (.int x3), none], [], (iq_sh l, a, J, X)) r) ∧ (∀ b, w = .inr b → r = (.inl (some (.int b.1)), (iq_sh l, b.2, J, X)))) : iq_Gg 3 78 (53, [some (.ref 63), none, some (.int x2), some (.int x3), some (.int v.1)], [], (iq_sh l, v.2, J, X)) r :=
  iq_lp_ok (σ := fun v => (53, [some (.ref 63), none, some (.int x2), some (.int x3), some (.int v.1)], [], (iq_sh l, v.2, J, X))) (Q := fun w r => (∀ a, w = .inl a → iq_Gg 3 78 (105, [some (.ref 63), none, some (.int x2), some (.int x3), none], [], (iq_sh l, a, J, X)) r) ∧ (∀ b, w = .inr b → r = (.inl (some (.int b.1)), (iq_sh l, b.2, J, X)))) (fun v q hv r h1 h2 => zP_closingKinds_l53_bok l x2 x3 J X v.1 v.2 hv r h1 h2) h r hq
set_option maxRecDepth 100000 in
theorem zP_closingKinds_l44_bok (l : Nat)  (x2 : Int32) (J : iq_J) (X : iq_X) (x3 : Int32) (I : iq_I) {q : (Int32 × iq_I) ⊕ ((iq_I) ⊕ (Int32 × iq_I))} (h : zP_closingKinds_l44_b x2 x3 I = some q) (r : iq_R × iq_M) (hc : ∀ v, q = .inl v → iq_Gg 3 78 (44, [some (.ref 63), none, some (.int x2), some (.int v.1), none], [], (iq_sh l, v.2, J, X)) r) (hx : ∀ w, q = .inr w → (∀ a, w = .inl a → iq_Gg 3 78 (111, [none, none, none, none, none], [], (iq_sh l, a, J, X)) r) ∧ (∀ b, w = .inr b → r = (.inl (some (.int b.1)), (iq_sh l, b.2, J, X)))) : iq_Gg 3 78 (44, [some (.ref 63), none, some (.int x2), some (.int x3), none], [], (iq_sh l, I, J, X)) r := by
  unfold zP_closingKinds_l44_b at h
  refine iq_G_go (k := 2) (σ' := (47, [some (.ref 63), none, some (.int x2), some (.int x3), none], [.int (8 : Int32), .int x3], (iq_sh l, I, J, X))) (fun _ => rfl) ?_
  rcases iq_ite h with ⟨hc_, h⟩ | ⟨hc_, h⟩
  · refine iq_G_pos (c := (8 : Int32) < x3) (σ1 := (111, [some (.ref 63), none, some (.int x2), some (.int x3), none], [], (iq_sh l, I, J, X))) (fun _ => rfl) hc_ ?_
    cases h
    exact iq_G_fg (L := [none, none, none, none, none]) trivial ((hx (.inl I) rfl).1 I rfl)
  · refine iq_G_neg (c := (8 : Int32) < x3) (σ1 := (50, [some (.ref 63), none, some (.int x2), some (.int x3), none], [], (iq_sh l, I, J, X))) (fun _ => rfl) hc_ ?_
    refine iq_G_go (k := 2) (σ' := (53, [some (.ref 63), none, some (.int x2), some (.int x3), some (.int (0 : Int32))], [], (iq_sh l, I, J, X))) (fun _ => rfl) ?_
    obtain ⟨w5, hw5, h⟩ := iq_bnd h
    refine iq_G_fg (L := [some (.ref 63), none, some (.int x2), some (.int x3), some (.int (0 : Int32))]) (And.intro rfl (And.intro rfl (And.intro rfl (And.intro rfl trivial)))) ?_
    refine zP_closingKinds_l53_ok l x2 x3 J X hw5 _ ⟨fun a6 ha => ?_, fun b7 hb => ?_⟩
    · subst ha
      replace h := ir_smL h
      show iq_Gg 3 78 (105, [some (.ref 63), none, some (.int x2), some (.int x3), none], [], (iq_sh l, a6, J, X)) _
      refine iq_G_go (k := 2) (σ' := (44, [some (.ref 63), none, some (.int x2), some (.int (x3 + (1 : Int32))), none], [], (iq_sh l, a6, J, X))) (fun _ => rfl) ?_
      cases h
      exact iq_G_fg (L := [some (.ref 63), none, some (.int x2), some (.int (x3 + (1 : Int32))), none]) (And.intro rfl (And.intro rfl (And.intro rfl trivial))) (hc ((x3 + (1 : Int32)), a6) rfl)
    · subst hb
      replace h := ir_smR h
      cases h
      exact (hx _ rfl).2 _ rfl
set_option maxRecDepth 100000 in
theorem zP_closingKinds_l44_ok (l : Nat)  (x2 : Int32) (J : iq_J) (X : iq_X) {n : Nat} {v : Int32 × iq_I} {w : (iq_I) ⊕ (Int32 × iq_I)} (h : zP_closingKinds_l44 x2 n v = some w) (r : iq_R × iq_M) (hq : (∀ a, w = .inl a → iq_Gg 3 78 (111, [none, none, none, none, none], [], (iq_sh l, a, J, X)) r) ∧ (∀ b, w = .inr b → r = (.inl (some (.int b.1)), (iq_sh l, b.2, J, X)))) : iq_Gg 3 78 (44, [some (.ref 63), none, some (.int x2), some (.int v.1), none], [], (iq_sh l, v.2, J, X)) r :=
  iq_lp_ok (σ := fun v => (44, [some (.ref 63), none, some (.int x2), some (.int v.1), none], [], (iq_sh l, v.2, J, X))) (Q := fun w r => (∀ a, w = .inl a → iq_Gg 3 78 (111, [none, none, none, none, none], [], (iq_sh l, a, J, X)) r) ∧ (∀ b, w = .inr b → r = (.inl (some (.int b.1)), (iq_sh l, b.2, J, X)))) (fun v q hv r h1 h2 => zP_closingKinds_l44_bok l x2 J X v.1 v.2 hv r h1 h2) h r hq
set_option maxRecDepth 100000 in
theorem zP_closingKinds_ok (l : Nat)   (I : iq_I) (J : iq_J) (X : iq_X) {q : Int32 × iq_I} (h : zP_closingKinds I = some q) : iq_Cc 4 78 [.ref 63, .ref 16] (iq_sh l, I, J, X) (.inl (some (.int q.1)), (iq_sh l, q.2, J, X)) := by
  refine iq_Cc_of (L := [some (.ref 63), some (.ref 16), none, none, none]) rfl rfl ?_
  unfold zP_closingKinds at h
  refine iq_G_go (k := 4) (σ' := (4, [some (.ref 63), some (.ref 16), some (.int (0 : Int32)), some (.int (0 : Int32)), none], [], (iq_sh l, I, J, X))) (fun _ => rfl) ?_
  obtain ⟨w2, hw2, h⟩ := iq_bnd h
  refine iq_G_fg (L := [some (.ref 63), some (.ref 16), some (.int (0 : Int32)), some (.int (0 : Int32)), none]) (And.intro rfl (And.intro rfl (And.intro rfl (And.intro rfl trivial)))) ?_
  refine zP_closingKinds_l4_ok l I J X hw2 _ ?_
  show iq_Gg 3 78 (42, [some (.ref 63), none, some (.int w2), none, none], [], (iq_sh l, I, J, X)) _
  refine iq_G_go (k := 2) (σ' := (44, [some (.ref 63), none, some (.int w2), some (.int (0 : Int32)), none], [], (iq_sh l, I, J, X))) (fun _ => rfl) ?_
  obtain ⟨w8, hw8, h⟩ := iq_bnd h
  refine iq_G_fg (L := [some (.ref 63), none, some (.int w2), some (.int (0 : Int32)), none]) (And.intro rfl (And.intro rfl (And.intro rfl trivial))) ?_
  refine zP_closingKinds_l44_ok l w2 J X hw8 _ ⟨fun a9 ha => ?_, fun b10 hb => ?_⟩
  · subst ha
    replace h := ir_smL h
    show iq_Gg 3 78 (111, [none, none, none, none, none], [], (iq_sh l, a9, J, X)) _
    refine iq_G_go (k := 1) (σ' := (112, [none, none, none, none, none], [.int (0 : Int32)], (iq_sh l, a9, J, X))) (fun _ => rfl) ?_
    cases h
    exact iq_G_ret (fun _ => rfl)
  · subst hb
    replace h := ir_smR h
    cases h
    rfl
set_option maxRecDepth 100000 in
theorem zO_closed_ok (l : Nat)   (I : iq_I) (J : iq_J) (X : iq_X) {q : Int32 × iq_I} (h : zO_closed I = some q) : iq_Cc 5 169 [.ref 1] (iq_sh l, I, J, X) (.inl (some (.int q.1)), (iq_sh l, q.2, J, X)) := by
  refine iq_Cc_of (L := [some (.ref 1)]) rfl rfl ?_
  unfold zO_closed at h
  refine iq_G_go (k := 4) (σ' := (8, [some (.ref 1)], [.ref 16, .ref 63], (iq_sh l, I, J, X))) (fun _ => rfl) ?_
  obtain ⟨q1, hq1, h⟩ := iq_bnd h
  refine iq_G_call (σ' := (11, [some (.ref 1)], [.int q1.1], (iq_sh l, q1.2, J, X))) (fun _ => rfl) (zP_closingKinds_ok l  I J X hq1) rfl rfl ?_
  cases h
  exact iq_G_ret (fun _ => rfl)
set_option maxRecDepth 100000 in
theorem zM_bits_l4_bok (l : Nat)  (x0 : Int32) (I : iq_I) (J : iq_J) (X : iq_X) (x1 : Int32) (x2 : Int32)  {q : (Int32 × Int32) ⊕ (Int32)} (h : zM_bits_l4_b x0 I x1 x2 = some q) (r : iq_R × iq_M) (hc : ∀ v, q = .inl v → iq_Gg 0 204 (4, [some (.int x0), some (.int v.1), some (.int v.2)], [], (iq_sh l, I, J, X)) r) (hx : ∀ w, q = .inr w → iq_Gg 0 204 (24, [none, some (.int w), none], [], (iq_sh l, I, J, X)) r) : iq_Gg 0 204 (4, [some (.int x0), some (.int x1), some (.int x2)], [], (iq_sh l, I, J, X)) r := by
  unfold zM_bits_l4_b at h
  refine iq_G_go (k := 2) (σ' := (7, [some (.int x0), some (.int x1), some (.int x2)], [.int (14 : Int32), .int x2], (iq_sh l, I, J, X))) (fun _ => rfl) ?_
  rcases iq_ite h with ⟨hc_, h⟩ | ⟨hc_, h⟩
  · refine iq_G_pos (c := (14 : Int32) ≤ x2) (σ1 := (24, [some (.int x0), some (.int x1), some (.int x2)], [], (iq_sh l, I, J, X))) (fun _ => rfl) hc_ ?_
    cases h
    exact iq_G_fg (L := [none, some (.int x1), none]) (And.intro rfl trivial) (hx x1 rfl)
  · refine iq_G_neg (c := (14 : Int32) ≤ x2) (σ1 := (10, [some (.int x0), some (.int x1), some (.int x2)], [], (iq_sh l, I, J, X))) (fun _ => rfl) hc_ ?_
    refine iq_G_go (k := 10) (σ' := (4, [some (.int x0), some (.int (x1 + ((x0 >>> (x2 &&& 31)) &&& (1 : Int32)))), some (.int (x2 + (1 : Int32)))], [], (iq_sh l, I, J, X))) (fun _ => rfl) ?_
    cases h
    exact iq_G_fg (L := [some (.int x0), some (.int (x1 + ((x0 >>> (x2 &&& 31)) &&& (1 : Int32)))), some (.int (x2 + (1 : Int32)))]) (And.intro rfl (And.intro rfl (And.intro rfl trivial))) (hc ((x1 + ((x0 >>> (x2 &&& 31)) &&& (1 : Int32))), (x2 + (1 : Int32))) rfl)
set_option maxRecDepth 100000 in
theorem zM_bits_l4_ok (l : Nat)  (x0 : Int32) (I : iq_I) (J : iq_J) (X : iq_X) {n : Nat} {v : Int32 × Int32} {w : Int32} (h : zM_bits_l4 x0 I n v = some w) (r : iq_R × iq_M) (hq : iq_Gg 0 204 (24, [none, some (.int w), none], [], (iq_sh l, I, J, X)) r) : iq_Gg 0 204 (4, [some (.int x0), some (.int v.1), some (.int v.2)], [], (iq_sh l, I, J, X)) r :=
  iq_lp_ok (σ := fun v => (4, [some (.int x0), some (.int v.1), some (.int v.2)], [], (iq_sh l, I, J, X))) (Q := fun w r => iq_Gg 0 204 (24, [none, some (.int w), none], [], (iq_sh l, I, J, X)) r) (fun v q hv r h1 h2 => zM_bits_l4_bok l x0 I J X v.1 v.2 hv r h1 h2) h r hq
set_option maxRecDepth 100000 in
theorem zM_bits_ok (l : Nat)  (x0 : Int32) (I : iq_I) (J : iq_J) (X : iq_X) {q : Int32} (h : zM_bits x0 I = some q) : iq_Cc 1 204 [.int x0] (iq_sh l, I, J, X) (.inl (some (.int q)), (iq_sh l, I, J, X)) := by
  refine iq_Cc_of (L := [some (.int x0), none, none]) rfl rfl ?_
  unfold zM_bits at h
  refine iq_G_go (k := 4) (σ' := (4, [some (.int x0), some (.int (0 : Int32)), some (.int (0 : Int32))], [], (iq_sh l, I, J, X))) (fun _ => rfl) ?_
  obtain ⟨w1, hw1, h⟩ := iq_bnd h
  refine iq_G_fg (L := [some (.int x0), some (.int (0 : Int32)), some (.int (0 : Int32))]) (And.intro rfl (And.intro rfl (And.intro rfl trivial))) ?_
  refine zM_bits_l4_ok l x0 I J X hw1 _ ?_
  show iq_Gg 0 204 (24, [none, some (.int w1), none], [], (iq_sh l, I, J, X)) _
  refine iq_G_go (k := 1) (σ' := (25, [none, some (.int w1), none], [.int w1], (iq_sh l, I, J, X))) (fun _ => rfl) ?_
  cases h
  exact iq_G_ret (fun _ => rfl)
set_option maxRecDepth 100000 in
theorem zM_follows_l6_bok (l : Nat)   (I : iq_I) (J : iq_J) (X : iq_X) (x2 : Int32) (x3 : Int32)  {q : (Int32 × Int32) ⊕ ((Unit) ⊕ (Int32))} (h : zM_follows_l6_b I x2 x3 = some q) (r : iq_R × iq_M) (hc : ∀ v, q = .inl v → iq_Gg 3 272 (6, [some (.ref 76), none, some (.int v.1), some (.int v.2)], [], (iq_sh l, I, J, X)) r) (hx : ∀ w, q = .inr w → (∀ a, w = .inl a → iq_Gg 3 272 (32, [none, none, none, none], [], (iq_sh l, I, J, X)) r) ∧ (∀ b, w = .inr b → r = (.inl (some (.int b)), (iq_sh l, I, J, X)))) : iq_Gg 3 272 (6, [some (.ref 76), none, some (.int x2), some (.int x3)], [], (iq_sh l, I, J, X)) r := by
  unfold zM_follows_l6_b at h
  refine iq_G_go (k := 3) (σ' := (11, [some (.ref 76), none, some (.int x2), some (.int x3)], [.int (I 76 1), .int x3], (iq_sh l, I, J, X))) (fun _ => rfl) ?_
  rcases iq_ite h with ⟨hc_, h⟩ | ⟨hc_, h⟩
  · refine iq_G_pos (c := (I 76 1) < x3) (σ1 := (32, [some (.ref 76), none, some (.int x2), some (.int x3)], [], (iq_sh l, I, J, X))) (fun _ => rfl) hc_ ?_
    cases h
    exact iq_G_fg (L := [none, none, none, none]) trivial ((hx (.inl ()) rfl).1 () rfl)
  · refine iq_G_neg (c := (I 76 1) < x3) (σ1 := (14, [some (.ref 76), none, some (.int x2), some (.int x3)], [], (iq_sh l, I, J, X))) (fun _ => rfl) hc_ ?_
    refine iq_G_go (k := 2) (σ' := (16, [some (.ref 76), none, some (.int x2), some (.int x3)], [.int x2, .ref 76], (iq_sh l, I, J, X))) (fun _ => rfl) ?_
    obtain ⟨q1, hq1, h⟩ := iq_bnd h
    refine iq_G_call (σ' := (19, [some (.ref 76), none, some (.int x2), some (.int x3)], [.int q1], (iq_sh l, I, J, X))) (fun _ => rfl) (zM_onward_ok l x2 I J X hq1) rfl rfl ?_
    refine iq_G_go (k := 2) (σ' := (21, [some (.ref 76), none, some (.int q1), some (.int x3)], [.int q1], (iq_sh l, I, J, X))) (fun _ => rfl) ?_
    rcases iq_ite h with ⟨hc_, h⟩ | ⟨hc_, h⟩
    · refine iq_G_pos (c := ¬ q1 = 0) (σ1 := (26, [some (.ref 76), none, some (.int q1), some (.int x3)], [], (iq_sh l, I, J, X))) (fun _ => rfl) hc_ ?_
      refine iq_G_go (k := 2) (σ' := (6, [some (.ref 76), none, some (.int q1), some (.int (x3 + (1 : Int32)))], [], (iq_sh l, I, J, X))) (fun _ => rfl) ?_
      cases h
      exact iq_G_fg (L := [some (.ref 76), none, some (.int q1), some (.int (x3 + (1 : Int32)))]) (And.intro rfl (And.intro rfl (And.intro rfl trivial))) (hc (q1, (x3 + (1 : Int32))) rfl)
    · refine iq_G_neg (c := ¬ q1 = 0) (σ1 := (24, [some (.ref 76), none, some (.int q1), some (.int x3)], [], (iq_sh l, I, J, X))) (fun _ => rfl) hc_ ?_
      refine iq_G_go (k := 1) (σ' := (25, [some (.ref 76), none, some (.int q1), some (.int x3)], [.int x3], (iq_sh l, I, J, X))) (fun _ => rfl) ?_
      cases h
      obtain rfl := (hx _ rfl).2 _ rfl
      exact iq_G_ret (fun _ => rfl)
set_option maxRecDepth 100000 in
theorem zM_follows_l6_ok (l : Nat)   (I : iq_I) (J : iq_J) (X : iq_X) {n : Nat} {v : Int32 × Int32} {w : (Unit) ⊕ (Int32)} (h : zM_follows_l6 I n v = some w) (r : iq_R × iq_M) (hq : (∀ a, w = .inl a → iq_Gg 3 272 (32, [none, none, none, none], [], (iq_sh l, I, J, X)) r) ∧ (∀ b, w = .inr b → r = (.inl (some (.int b)), (iq_sh l, I, J, X)))) : iq_Gg 3 272 (6, [some (.ref 76), none, some (.int v.1), some (.int v.2)], [], (iq_sh l, I, J, X)) r :=
  iq_lp_ok (σ := fun v => (6, [some (.ref 76), none, some (.int v.1), some (.int v.2)], [], (iq_sh l, I, J, X))) (Q := fun w r => (∀ a, w = .inl a → iq_Gg 3 272 (32, [none, none, none, none], [], (iq_sh l, I, J, X)) r) ∧ (∀ b, w = .inr b → r = (.inl (some (.int b)), (iq_sh l, I, J, X)))) (fun v q hv r h1 h2 => zM_follows_l6_bok l I J X v.1 v.2 hv r h1 h2) h r hq
set_option maxRecDepth 100000 in
theorem zM_follows_ok (l : Nat)  (x1 : Int32) (I : iq_I) (J : iq_J) (X : iq_X) {q : Int32} (h : zM_follows x1 I = some q) : iq_Cc 4 272 [.ref 76, .int x1] (iq_sh l, I, J, X) (.inl (some (.int q)), (iq_sh l, I, J, X)) := by
  refine iq_Cc_of (L := [some (.ref 76), some (.int x1), none, none]) rfl rfl ?_
  unfold zM_follows at h
  refine iq_G_go (k := 6) (σ' := (6, [some (.ref 76), some (.int x1), some (.int ((1 : Int32) <<< (x1 &&& 31))), some (.int (0 : Int32))], [], (iq_sh l, I, J, X))) (fun _ => rfl) ?_
  obtain ⟨w2, hw2, h⟩ := iq_bnd h
  refine iq_G_fg (L := [some (.ref 76), none, some (.int ((1 : Int32) <<< (x1 &&& 31))), some (.int (0 : Int32))]) (And.intro rfl (And.intro rfl (And.intro rfl trivial))) ?_
  refine zM_follows_l6_ok l I J X hw2 _ ⟨fun a3 ha => ?_, fun b4 hb => ?_⟩
  · subst ha
    replace h := ir_smL h
    show iq_Gg 3 272 (32, [none, none, none, none], [], (iq_sh l, I, J, X)) _
    refine iq_G_go (k := 1) (σ' := (33, [none, none, none, none], [.int (-1 : Int32)], (iq_sh l, I, J, X))) (fun _ => rfl) ?_
    cases h
    exact iq_G_ret (fun _ => rfl)
  · subst hb
    replace h := ir_smR h
    cases h
    rfl
set_option maxRecDepth 100000 in
theorem zM_closed_l45_bok (l : Nat)  (x1 : Int32) (x2 : Int32) (I : iq_I) (J : iq_J) (X : iq_X) (x3 : Int32) (x4 : Int32)  {q : (Int32 × Int32) ⊕ (Int32)} (h : zM_closed_l45_b x1 x2 I x3 x4 = some q) (r : iq_R × iq_M) (hc : ∀ v, q = .inl v → iq_Gg 4 281 (45, [some (.ref 76), some (.int x1), some (.int x2), some (.int v.1), some (.int v.2)], [], (iq_sh l, I, J, X)) r) (hx : ∀ w, q = .inr w → iq_Gg 4 281 (102, [some (.ref 76), some (.int x1), some (.int x2), some (.int w), none], [], (iq_sh l, I, J, X)) r) : iq_Gg 4 281 (45, [some (.ref 76), some (.int x1), some (.int x2), some (.int x3), some (.int x4)], [], (iq_sh l, I, J, X)) r := by
  unfold zM_closed_l45_b at h
  refine iq_G_go (k := 3) (σ' := (51, [some (.ref 76), some (.int x1), some (.int x2), some (.int x3), some (.int x4)], [.int (I 76 5), .int x4], (iq_sh l, I, J, X))) (fun _ => rfl) ?_
  rcases iq_ite h with ⟨hc_, h⟩ | ⟨hc_, h⟩
  · refine iq_G_pos (c := (I 76 5) ≤ x4) (σ1 := (102, [some (.ref 76), some (.int x1), some (.int x2), some (.int x3), some (.int x4)], [], (iq_sh l, I, J, X))) (fun _ => rfl) hc_ ?_
    cases h
    exact iq_G_fg (L := [some (.ref 76), some (.int x1), some (.int x2), some (.int x3), none]) (And.intro rfl (And.intro rfl (And.intro rfl (And.intro rfl trivial)))) (hx x3 rfl)
  · refine iq_G_neg (c := (I 76 5) ≤ x4) (σ1 := (54, [some (.ref 76), some (.int x1), some (.int x2), some (.int x3), some (.int x4)], [], (iq_sh l, I, J, X))) (fun _ => rfl) hc_ ?_
    refine iq_G_go (k := 1) (σ' := (55, [some (.ref 76), some (.int x1), some (.int x2), some (.int x3), some (.int x4)], [.int x3], (iq_sh l, I, J, X))) (fun _ => rfl) ?_
    rcases iq_ite h with ⟨hc_, h⟩ | ⟨hc_, h⟩
    · refine iq_G_pos (c := x3 = 0) (σ1 := (94, [some (.ref 76), some (.int x1), some (.int x2), some (.int x3), some (.int x4)], [], (iq_sh l, I, J, X))) (fun _ => rfl) hc_ ?_
      refine iq_G_go (k := 4) (σ' := (45, [some (.ref 76), some (.int x1), some (.int x2), some (.int (0 : Int32)), some (.int (x4 + (1 : Int32)))], [], (iq_sh l, I, J, X))) (fun _ => rfl) ?_
      cases h
      exact iq_G_fg (L := [some (.ref 76), some (.int x1), some (.int x2), some (.int (0 : Int32)), some (.int (x4 + (1 : Int32)))]) (And.intro rfl (And.intro rfl (And.intro rfl (And.intro rfl (And.intro rfl trivial))))) (hc ((0 : Int32), (x4 + (1 : Int32))) rfl)
    · refine iq_G_neg (c := x3 = 0) (σ1 := (58, [some (.ref 76), some (.int x1), some (.int x2), some (.int x3), some (.int x4)], [], (iq_sh l, I, J, X))) (fun _ => rfl) hc_ ?_
      refine iq_G_go (k := 4) (σ' := (65, [some (.ref 76), some (.int x1), some (.int x2), some (.int x3), some (.int x4)], [.int x4, .ref 98, .ref 76], (iq_sh l, I, J, X))) (fun _ => rfl) ?_
      obtain ⟨q3, hq3, h⟩ := iq_bnd h
      refine iq_G_call (σ' := (68, [some (.ref 76), some (.int x1), some (.int x2), some (.int x3), some (.int x4)], [.int q3], (iq_sh l, I, J, X))) (fun _ => rfl) (zM_stateNow_76_98_ok l x4 I J X hq3) rfl rfl ?_
      refine iq_G_go (k := 1) (σ' := (69, [some (.ref 76), some (.int x1), some (.int x2), some (.int x3), some (.int x4)], [.int (-1 : Int32), .int q3], (iq_sh l, I, J, X))) (fun _ => rfl) ?_
      rcases iq_ite h with ⟨hc_, h⟩ | ⟨hc_, h⟩
      · refine iq_G_pos (c := q3 = (-1 : Int32)) (σ1 := (90, [some (.ref 76), some (.int x1), some (.int x2), some (.int x3), some (.int x4)], [], (iq_sh l, I, J, X))) (fun _ => rfl) hc_ ?_
        refine iq_G_go (k := 5) (σ' := (45, [some (.ref 76), some (.int x1), some (.int x2), some (.int (1 : Int32)), some (.int (x4 + (1 : Int32)))], [], (iq_sh l, I, J, X))) (fun _ => rfl) ?_
        cases h
        exact iq_G_fg (L := [some (.ref 76), some (.int x1), some (.int x2), some (.int (1 : Int32)), some (.int (x4 + (1 : Int32)))]) (And.intro rfl (And.intro rfl (And.intro rfl (And.intro rfl (And.intro rfl trivial))))) (hc ((1 : Int32), (x4 + (1 : Int32))) rfl)
      · refine iq_G_neg (c := q3 = (-1 : Int32)) (σ1 := (72, [some (.ref 76), some (.int x1), some (.int x2), some (.int x3), some (.int x4)], [], (iq_sh l, I, J, X))) (fun _ => rfl) hc_ ?_
        refine iq_G_go (k := 5) (σ' := (80, [some (.ref 76), some (.int x1), some (.int x2), some (.int x3), some (.int x4)], [.int x4, .ref 98, .ref 76, .ref 76], (iq_sh l, I, J, X))) (fun _ => rfl) ?_
        obtain ⟨q4, hq4, h⟩ := iq_bnd h
        refine iq_G_call (σ' := (83, [some (.ref 76), some (.int x1), some (.int x2), some (.int x3), some (.int x4)], [.int q4, .ref 76], (iq_sh l, I, J, X))) (fun _ => rfl) (zM_stateNow_76_98_ok l x4 I J X hq4) rfl rfl ?_
        obtain ⟨q5, hq5, h⟩ := iq_bnd h
        refine iq_G_call (σ' := (86, [some (.ref 76), some (.int x1), some (.int x2), some (.int x3), some (.int x4)], [.int q5], (iq_sh l, I, J, X))) (fun _ => rfl) (zM_follows_ok l q4 I J X hq5) rfl rfl ?_
        refine iq_G_go (k := 1) (σ' := (87, [some (.ref 76), some (.int x1), some (.int x2), some (.int x3), some (.int x4)], [.int (-1 : Int32), .int q5], (iq_sh l, I, J, X))) (fun _ => rfl) ?_
        rcases iq_ite h with ⟨hc_, h⟩ | ⟨hc_, h⟩
        · refine iq_G_pos (c := q5 = (-1 : Int32)) (σ1 := (94, [some (.ref 76), some (.int x1), some (.int x2), some (.int x3), some (.int x4)], [], (iq_sh l, I, J, X))) (fun _ => rfl) hc_ ?_
          refine iq_G_go (k := 4) (σ' := (45, [some (.ref 76), some (.int x1), some (.int x2), some (.int (0 : Int32)), some (.int (x4 + (1 : Int32)))], [], (iq_sh l, I, J, X))) (fun _ => rfl) ?_
          cases h
          exact iq_G_fg (L := [some (.ref 76), some (.int x1), some (.int x2), some (.int (0 : Int32)), some (.int (x4 + (1 : Int32)))]) (And.intro rfl (And.intro rfl (And.intro rfl (And.intro rfl (And.intro rfl trivial))))) (hc ((0 : Int32), (x4 + (1 : Int32))) rfl)
        · refine iq_G_neg (c := q5 = (-1 : Int32)) (σ1 := (90, [some (.ref 76), some (.int x1), some (.int x2), some (.int x3), some (.int x4)], [], (iq_sh l, I, J, X))) (fun _ => rfl) hc_ ?_
          refine iq_G_go (k := 5) (σ' := (45, [some (.ref 76), some (.int x1), some (.int x2), some (.int (1 : Int32)), some (.int (x4 + (1 : Int32)))], [], (iq_sh l, I, J, X))) (fun _ => rfl) ?_
          cases h
          exact iq_G_fg (L := [some (.ref 76), some (.int x1), some (.int x2), some (.int (1 : Int32)), some (.int (x4 + (1 : Int32)))]) (And.intro rfl (And.intro rfl (And.intro rfl (And.intro rfl (And.intro rfl trivial))))) (hc ((1 : Int32), (x4 + (1 : Int32))) rfl)
set_option maxRecDepth 100000 in
theorem zM_closed_l45_ok (l : Nat)  (x1 : Int32) (x2 : Int32) (I : iq_I) (J : iq_J) (X : iq_X) {n : Nat} {v : Int32 × Int32} {w : Int32} (h : zM_closed_l45 x1 x2 I n v = some w) (r : iq_R × iq_M) (hq : iq_Gg 4 281 (102, [some (.ref 76), some (.int x1), some (.int x2), some (.int w), none], [], (iq_sh l, I, J, X)) r) : iq_Gg 4 281 (45, [some (.ref 76), some (.int x1), some (.int x2), some (.int v.1), some (.int v.2)], [], (iq_sh l, I, J, X)) r :=
  iq_lp_ok (σ := fun v => (45, [some (.ref 76), some (.int x1), some (.int x2), some (.int v.1), some (.int v.2)], [], (iq_sh l, I, J, X))) (Q := fun w r => iq_Gg 4 281 (102, [some (.ref 76), some (.int x1), some (.int x2), some (.int w), none], [], (iq_sh l, I, J, X)) r) (fun v q hv r h1 h2 => zM_closed_l45_bok l x1 x2 I J X v.1 v.2 hv r h1 h2) h r hq
set_option maxRecDepth 100000 in
theorem zM_closed_35_ok (l : Nat)  (x1 : Int32) (x2 : Int32) (I : iq_I) (J : iq_J) (X : iq_X)  {q : (Int32 × Int32 × iq_I) ⊕ (Int32 × iq_I)} (h : zM_closed_35 x1 x2 I = some q) (r : iq_R × iq_M) (hc : ∀ v, q = .inl v → iq_Gg 4 281 (9, [some (.ref 76), some (.int v.1), some (.int v.2.1), none, none], [], (iq_sh l, v.2.2, J, X)) r) (hx : ∀ w, q = .inr w → iq_Gg 4 281 (114, [some (.ref 76), some (.int w.1), none, none, none], [], (iq_sh l, w.2, J, X)) r) : iq_Gg 4 281 (35, [some (.ref 76), some (.int x1), some (.int x2), none, none], [], (iq_sh l, I, J, X)) r := by
  unfold zM_closed_35 at h
  refine iq_G_go (k := 2) (σ' := (37, [some (.ref 76), some (.int x1), some (.int x2), none, none], [.int x2, .ref 76], (iq_sh l, I, J, X))) (fun _ => rfl) ?_
  refine iq_G_go (k := 1) (σ' := (40, [some (.ref 76), some (.int x1), some (.int x2), none, none], [], (iq_sh l, (iq_upI I 76 57 x2), J, X))) (fun _ => rfl) ?_
  obtain ⟨I2, eI2, h⟩ := ir_letG h
  rw [← eI2]
  clear eI2
  refine iq_G_go (k := 4) (σ' := (45, [some (.ref 76), some (.int x1), some (.int x2), some (.int (1 : Int32)), some (.int (0 : Int32))], [], (iq_sh l, I2, J, X))) (fun _ => rfl) ?_
  obtain ⟨w6, hw6, h⟩ := iq_bnd h
  refine iq_G_fg (L := [some (.ref 76), some (.int x1), some (.int x2), some (.int (1 : Int32)), some (.int (0 : Int32))]) (And.intro rfl (And.intro rfl (And.intro rfl (And.intro rfl (And.intro rfl trivial))))) ?_
  refine zM_closed_l45_ok l x1 x2 I2 J X hw6 _ ?_
  show iq_Gg 4 281 (102, [some (.ref 76), some (.int x1), some (.int x2), some (.int w6), none], [], (iq_sh l, I2, J, X)) _
  refine iq_G_go (k := 1) (σ' := (103, [some (.ref 76), some (.int x1), some (.int x2), some (.int w6), none], [.int w6], (iq_sh l, I2, J, X))) (fun _ => rfl) ?_
  rcases iq_ite h with ⟨hc_, h⟩ | ⟨hc_, h⟩
  · refine iq_G_pos (c := w6 = 0) (σ1 := (108, [some (.ref 76), some (.int x1), some (.int x2), some (.int w6), none], [], (iq_sh l, I2, J, X))) (fun _ => rfl) hc_ ?_
    refine iq_G_go (k := 2) (σ' := (9, [some (.ref 76), some (.int x1), some (.int (x2 + (1 : Int32))), some (.int w6), none], [], (iq_sh l, I2, J, X))) (fun _ => rfl) ?_
    cases h
    exact iq_G_fg (L := [some (.ref 76), some (.int x1), some (.int (x2 + (1 : Int32))), none, none]) (And.intro rfl (And.intro rfl (And.intro rfl trivial))) (hc (x1, (x2 + (1 : Int32)), I2) rfl)
  · refine iq_G_neg (c := w6 = 0) (σ1 := (106, [some (.ref 76), some (.int x1), some (.int x2), some (.int w6), none], [], (iq_sh l, I2, J, X))) (fun _ => rfl) hc_ ?_
    refine iq_G_go (k := 4) (σ' := (9, [some (.ref 76), some (.int x2), some (.int (x2 + (1 : Int32))), some (.int w6), none], [], (iq_sh l, I2, J, X))) (fun _ => rfl) ?_
    cases h
    exact iq_G_fg (L := [some (.ref 76), some (.int x2), some (.int (x2 + (1 : Int32))), none, none]) (And.intro rfl (And.intro rfl (And.intro rfl trivial))) (hc (x2, (x2 + (1 : Int32)), I2) rfl)
set_option maxRecDepth 100000 in
theorem zM_closed_l9_bok (l : Nat)   (J : iq_J) (X : iq_X) (x1 : Int32) (x2 : Int32) (I : iq_I) {q : (Int32 × Int32 × iq_I) ⊕ (Int32 × iq_I)} (h : zM_closed_l9_b  x1 x2 I = some q) (r : iq_R × iq_M) (hc : ∀ v, q = .inl v → iq_Gg 4 281 (9, [some (.ref 76), some (.int v.1), some (.int v.2.1), none, none], [], (iq_sh l, v.2.2, J, X)) r) (hx : ∀ w, q = .inr w → iq_Gg 4 281 (114, [some (.ref 76), some (.int w.1), none, none, none], [], (iq_sh l, w.2, J, X)) r) : iq_Gg 4 281 (9, [some (.ref 76), some (.int x1), some (.int x2), none, none], [], (iq_sh l, I, J, X)) r := by
  unfold zM_closed_l9_b at h
  refine iq_G_go (k := 2) (σ' := (13, [some (.ref 76), some (.int x1), some (.int x2), none, none], [.int (256 : Int32), .int x2], (iq_sh l, I, J, X))) (fun _ => rfl) ?_
  rcases iq_ite h with ⟨hc_, h⟩ | ⟨hc_, h⟩
  · refine iq_G_pos (c := (256 : Int32) ≤ x2) (σ1 := (114, [some (.ref 76), some (.int x1), some (.int x2), none, none], [], (iq_sh l, I, J, X))) (fun _ => rfl) hc_ ?_
    cases h
    exact iq_G_fg (L := [some (.ref 76), some (.int x1), none, none, none]) (And.intro rfl (And.intro rfl trivial)) (hx (x1, I) rfl)
  · refine iq_G_neg (c := (256 : Int32) ≤ x2) (σ1 := (16, [some (.ref 76), some (.int x1), some (.int x2), none, none], [], (iq_sh l, I, J, X))) (fun _ => rfl) hc_ ?_
    refine iq_G_go (k := 2) (σ' := (18, [some (.ref 76), some (.int x1), some (.int x2), none, none], [.int (-1 : Int32), .int x1], (iq_sh l, I, J, X))) (fun _ => rfl) ?_
    rcases iq_ite h with ⟨hc_, h⟩ | ⟨hc_, h⟩
    · refine iq_G_pos (c := x1 = (-1 : Int32)) (σ1 := (35, [some (.ref 76), some (.int x1), some (.int x2), none, none], [], (iq_sh l, I, J, X))) (fun _ => rfl) hc_ ?_
      exact iq_G_fg (L := [some (.ref 76), some (.int x1), some (.int x2), none, none]) (And.intro rfl (And.intro rfl (And.intro rfl trivial))) (zM_closed_35_ok l x1 x2 I J X  h r hc hx)
    · refine iq_G_neg (c := x1 = (-1 : Int32)) (σ1 := (21, [some (.ref 76), some (.int x1), some (.int x2), none, none], [], (iq_sh l, I, J, X))) (fun _ => rfl) hc_ ?_
      refine iq_G_go (k := 1) (σ' := (22, [some (.ref 76), some (.int x1), some (.int x2), none, none], [.int x2], (iq_sh l, I, J, X))) (fun _ => rfl) ?_
      obtain ⟨q7, hq7, h⟩ := iq_bnd h
      refine iq_G_call (σ' := (25, [some (.ref 76), some (.int x1), some (.int x2), none, none], [.int q7], (iq_sh l, I, J, X))) (fun _ => rfl) (zM_bits_ok l x2 I J X hq7) rfl rfl ?_
      refine iq_G_go (k := 1) (σ' := (26, [some (.ref 76), some (.int x1), some (.int x2), none, none], [.int x1, .int q7], (iq_sh l, I, J, X))) (fun _ => rfl) ?_
      obtain ⟨q8, hq8, h⟩ := iq_bnd h
      refine iq_G_call (σ' := (29, [some (.ref 76), some (.int x1), some (.int x2), none, none], [.int q8, .int q7], (iq_sh l, I, J, X))) (fun _ => rfl) (zM_bits_ok l x1 I J X hq8) rfl rfl ?_
      rcases iq_ite h with ⟨hc_, h⟩ | ⟨hc_, h⟩
      · refine iq_G_pos (c := q7 < q8) (σ1 := (35, [some (.ref 76), some (.int x1), some (.int x2), none, none], [], (iq_sh l, I, J, X))) (fun _ => rfl) hc_ ?_
        exact iq_G_fg (L := [some (.ref 76), some (.int x1), some (.int x2), none, none]) (And.intro rfl (And.intro rfl (And.intro rfl trivial))) (zM_closed_35_ok l x1 x2 I J X  h r hc hx)
      · refine iq_G_neg (c := q7 < q8) (σ1 := (32, [some (.ref 76), some (.int x1), some (.int x2), none, none], [], (iq_sh l, I, J, X))) (fun _ => rfl) hc_ ?_
        refine iq_G_go (k := 3) (σ' := (9, [some (.ref 76), some (.int x1), some (.int (x2 + (1 : Int32))), none, none], [], (iq_sh l, I, J, X))) (fun _ => rfl) ?_
        cases h
        exact iq_G_fg (L := [some (.ref 76), some (.int x1), some (.int (x2 + (1 : Int32))), none, none]) (And.intro rfl (And.intro rfl (And.intro rfl trivial))) (hc (x1, (x2 + (1 : Int32)), I) rfl)
set_option maxRecDepth 100000 in
theorem zM_closed_l9_ok (l : Nat)   (J : iq_J) (X : iq_X) {n : Nat} {v : Int32 × Int32 × iq_I} {w : Int32 × iq_I} (h : zM_closed_l9  n v = some w) (r : iq_R × iq_M) (hq : iq_Gg 4 281 (114, [some (.ref 76), some (.int w.1), none, none, none], [], (iq_sh l, w.2, J, X)) r) : iq_Gg 4 281 (9, [some (.ref 76), some (.int v.1), some (.int v.2.1), none, none], [], (iq_sh l, v.2.2, J, X)) r :=
  iq_lp_ok (σ := fun v => (9, [some (.ref 76), some (.int v.1), some (.int v.2.1), none, none], [], (iq_sh l, v.2.2, J, X))) (Q := fun w r => iq_Gg 4 281 (114, [some (.ref 76), some (.int w.1), none, none, none], [], (iq_sh l, w.2, J, X)) r) (fun v q hv r h1 h2 => zM_closed_l9_bok l J X v.1 v.2.1 v.2.2 hv r h1 h2) h r hq
set_option maxRecDepth 100000 in
theorem zM_closed_ok (l : Nat)   (I : iq_I) (J : iq_J) (X : iq_X) {q : Int32 × iq_I} (h : zM_closed I = some q) : iq_Cc 5 281 [.ref 76] (iq_sh l, I, J, X) (.inl (some (.int q.1)), (iq_sh l, q.2, J, X)) := by
  refine iq_Cc_of (L := [some (.ref 76), none, none, none, none]) rfl rfl ?_
  unfold zM_closed at h
  refine iq_G_go (k := 2) (σ' := (2, [some (.ref 76), none, none, none, none], [.int (0 : Int32), .ref 76], (iq_sh l, I, J, X))) (fun _ => rfl) ?_
  refine iq_G_go (k := 1) (σ' := (5, [some (.ref 76), none, none, none, none], [], (iq_sh l, (iq_upI I 76 0 (0 : Int32)), J, X))) (fun _ => rfl) ?_
  obtain ⟨I1, eI1, h⟩ := ir_letG h
  rw [← eI1]
  clear eI1
  refine iq_G_go (k := 4) (σ' := (9, [some (.ref 76), some (.int (-1 : Int32)), some (.int (0 : Int32)), none, none], [], (iq_sh l, I1, J, X))) (fun _ => rfl) ?_
  obtain ⟨w9, hw9, h⟩ := iq_bnd h
  refine iq_G_fg (L := [some (.ref 76), some (.int (-1 : Int32)), some (.int (0 : Int32)), none, none]) (And.intro rfl (And.intro rfl (And.intro rfl trivial))) ?_
  refine zM_closed_l9_ok l J X hw9 _ ?_
  show iq_Gg 4 281 (114, [some (.ref 76), some (.int w9.1), none, none, none], [], (iq_sh l, w9.2, J, X)) _
  refine iq_G_go (k := 2) (σ' := (116, [some (.ref 76), some (.int w9.1), none, none, none], [.int (0 : Int32), .ref 76], (iq_sh l, w9.2, J, X))) (fun _ => rfl) ?_
  refine iq_G_go (k := 1) (σ' := (119, [some (.ref 76), some (.int w9.1), none, none, none], [], (iq_sh l, (iq_upI w9.2 76 57 (0 : Int32)), J, X))) (fun _ => rfl) ?_
  obtain ⟨I10, eI10, h⟩ := ir_letG h
  rw [← eI10]
  clear eI10
  refine iq_G_go (k := 1) (σ' := (120, [some (.ref 76), some (.int w9.1), none, none, none], [.int w9.1], (iq_sh l, I10, J, X))) (fun _ => rfl) ?_
  cases h
  exact iq_G_ret (fun _ => rfl)
set_option maxRecDepth 100000 in
theorem zO_needNoneOrMore_ok (l : Nat)  (x1 : Int32) (I : iq_I) (J : iq_J) (X : iq_X) {q : (Unit ⊕ Nat) × iq_X} (h : zO_needNoneOrMore x1 I X = some q) : iq_Cc 1 197 [.ref 1, .int x1] (iq_sh l, I, J, X) ((ir_Rv q.1), (iq_sh l, I, J, q.2)) := by
  refine iq_Cc_of (L := [some (.ref 1), some (.int x1)]) rfl rfl ?_
  unfold zO_needNoneOrMore at h
  refine iq_G_go (k := 2) (σ' := (2, [some (.ref 1), some (.int x1)], [.int (-1 : Int32), .int x1], (iq_sh l, I, J, X))) (fun _ => rfl) ?_
  rcases iq_ite h with ⟨hc_, h⟩ | ⟨hc_, h⟩
  · refine iq_G_pos (c := (-1 : Int32) ≤ x1) (σ1 := (16, [some (.ref 1), some (.int x1)], [], (iq_sh l, I, J, X))) (fun _ => rfl) hc_ ?_
    cases h
    exact iq_G_ret (fun _ => rfl)
  · refine iq_G_neg (c := (-1 : Int32) ≤ x1) (σ1 := (5, [some (.ref 1), some (.int x1)], [], (iq_sh l, I, J, X))) (fun _ => rfl) hc_ ?_
    cases h
    exact iq_G_ret (fun _ => rfl)
set_option maxRecDepth 100000 in
theorem zP_leastCost_ok (l : Nat)  (x1 : Int32) (x2 : Int32) (I : iq_I) (J : iq_J) (X : iq_X) {q : Int32} (h : zP_leastCost x1 x2 I = some q) : iq_Cc 1 73 [.ref 63, .int x1, .int x2] (iq_sh l, I, J, X) (.inl (some (.int q)), (iq_sh l, I, J, X)) := by
  refine iq_Cc_of (L := [some (.ref 63), some (.int x1), some (.int x2)]) rfl rfl ?_
  unfold zP_leastCost at h
  refine iq_G_go (k := 1) (σ' := (1, [some (.ref 63), some (.int x1), some (.int x2)], [.int x1], (iq_sh l, I, J, X))) (fun _ => rfl) ?_
  rcases iq_ite h with ⟨hc_, h⟩ | ⟨hc_, h⟩
  · refine iq_G_pos (c := x1 < 0) (σ1 := (25, [some (.ref 63), some (.int x1), some (.int x2)], [], (iq_sh l, I, J, X))) (fun _ => rfl) hc_ ?_
    refine iq_G_go (k := 1) (σ' := (27, [some (.ref 63), some (.int x1), some (.int x2)], [.int (1000000 : Int32)], (iq_sh l, I, J, X))) (fun _ => rfl) ?_
    cases h
    exact iq_G_ret (fun _ => rfl)
  · refine iq_G_neg (c := x1 < 0) (σ1 := (4, [some (.ref 63), some (.int x1), some (.int x2)], [], (iq_sh l, I, J, X))) (fun _ => rfl) hc_ ?_
    refine iq_G_go (k := 4) (σ' := (12, [some (.ref 63), some (.int x1), some (.int x2)], [.int (I 4 0), .int x1], (iq_sh l, I, J, X))) (fun _ => rfl) ?_
    rcases iq_ite h with ⟨hc_, h⟩ | ⟨hc_, h⟩
    · refine iq_G_pos (c := (I 4 0) ≤ x1) (σ1 := (25, [some (.ref 63), some (.int x1), some (.int x2)], [], (iq_sh l, I, J, X))) (fun _ => rfl) hc_ ?_
      refine iq_G_go (k := 1) (σ' := (27, [some (.ref 63), some (.int x1), some (.int x2)], [.int (1000000 : Int32)], (iq_sh l, I, J, X))) (fun _ => rfl) ?_
      cases h
      exact iq_G_ret (fun _ => rfl)
    · refine iq_G_neg (c := (I 4 0) ≤ x1) (σ1 := (15, [some (.ref 63), some (.int x1), some (.int x2)], [], (iq_sh l, I, J, X))) (fun _ => rfl) hc_ ?_
      refine iq_G_go (k := 1) (σ' := (16, [some (.ref 63), some (.int x1), some (.int x2)], [.int x2], (iq_sh l, I, J, X))) (fun _ => rfl) ?_
      rcases iq_ite h with ⟨hc_, h⟩ | ⟨hc_, h⟩
      · refine iq_G_pos (c := x2 < 0) (σ1 := (25, [some (.ref 63), some (.int x1), some (.int x2)], [], (iq_sh l, I, J, X))) (fun _ => rfl) hc_ ?_
        refine iq_G_go (k := 1) (σ' := (27, [some (.ref 63), some (.int x1), some (.int x2)], [.int (1000000 : Int32)], (iq_sh l, I, J, X))) (fun _ => rfl) ?_
        cases h
        exact iq_G_ret (fun _ => rfl)
      · refine iq_G_neg (c := x2 < 0) (σ1 := (19, [some (.ref 63), some (.int x1), some (.int x2)], [], (iq_sh l, I, J, X))) (fun _ => rfl) hc_ ?_
        refine iq_G_go (k := 2) (σ' := (22, [some (.ref 63), some (.int x1), some (.int x2)], [.int (40 : Int32), .int x2], (iq_sh l, I, J, X))) (fun _ => rfl) ?_
        rcases iq_ite h with ⟨hc_, h⟩ | ⟨hc_, h⟩
        · refine iq_G_pos (c := x2 ≤ (40 : Int32)) (σ1 := (28, [some (.ref 63), some (.int x1), some (.int x2)], [], (iq_sh l, I, J, X))) (fun _ => rfl) hc_ ?_
          refine iq_G_go (k := 7) (σ' := (38, [some (.ref 63), some (.int x1), some (.int x2)], [.int ((x2 * (10 : Int32)) + x1), .ref 66], (iq_sh l, I, J, X))) (fun _ => rfl) ?_
          obtain ⟨hc_, h⟩ := iq_itn h
          refine iq_G_pos (c := iq_in ((x2 * (10 : Int32)) + x1) 410) (σ1 := (39, [some (.ref 63), some (.int x1), some (.int x2)], [.int (I 66 (Int32.toNatClampNeg ((x2 * (10 : Int32)) + x1)))], (iq_sh l, I, J, X))) (fun _ => rfl) hc_ ?_
          cases h
          exact iq_G_ret (fun _ => rfl)
        · refine iq_G_neg (c := x2 ≤ (40 : Int32)) (σ1 := (25, [some (.ref 63), some (.int x1), some (.int x2)], [], (iq_sh l, I, J, X))) (fun _ => rfl) hc_ ?_
          refine iq_G_go (k := 1) (σ' := (27, [some (.ref 63), some (.int x1), some (.int x2)], [.int (1000000 : Int32)], (iq_sh l, I, J, X))) (fun _ => rfl) ?_
          cases h
          exact iq_G_ret (fun _ => rfl)
set_option maxRecDepth 100000 in
theorem zP_cheapestBehind_l6_bok (l : Nat)  (x1 : Int32) (x2 : Int32) (I : iq_I) (J : iq_J) (X : iq_X) (x3 : Int32) (x4 : Int32)  {q : (Int32 × Int32) ⊕ (Int32)} (h : zP_cheapestBehind_l6_b x1 x2 I x3 x4 = some q) (r : iq_R × iq_M) (hc : ∀ v, q = .inl v → iq_Gg 1 72 (6, [some (.ref 63), some (.int x1), some (.int x2), some (.int v.1), some (.int v.2), none], [], (iq_sh l, I, J, X)) r) (hx : ∀ w, q = .inr w → iq_Gg 1 72 (70, [none, none, none, some (.int w), none, none], [], (iq_sh l, I, J, X)) r) : iq_Gg 1 72 (6, [some (.ref 63), some (.int x1), some (.int x2), some (.int x3), some (.int x4), none], [], (iq_sh l, I, J, X)) r := by
  unfold zP_cheapestBehind_l6_b at h
  refine iq_G_go (k := 2) (σ' := (10, [some (.ref 63), some (.int x1), some (.int x2), some (.int x3), some (.int x4), none], [.int (8 : Int32), .int x4], (iq_sh l, I, J, X))) (fun _ => rfl) ?_
  rcases iq_ite h with ⟨hc_, h⟩ | ⟨hc_, h⟩
  · refine iq_G_pos (c := (8 : Int32) ≤ x4) (σ1 := (70, [some (.ref 63), some (.int x1), some (.int x2), some (.int x3), some (.int x4), none], [], (iq_sh l, I, J, X))) (fun _ => rfl) hc_ ?_
    cases h
    exact iq_G_fg (L := [none, none, none, some (.int x3), none, none]) (And.intro rfl trivial) (hx x3 rfl)
  · refine iq_G_neg (c := (8 : Int32) ≤ x4) (σ1 := (13, [some (.ref 63), some (.int x1), some (.int x2), some (.int x3), some (.int x4), none], [], (iq_sh l, I, J, X))) (fun _ => rfl) hc_ ?_
    refine iq_G_go (k := 7) (σ' := (25, [some (.ref 63), some (.int x1), some (.int x2), some (.int x3), some (.int x4), none], [.int (((I 4 4) >>> (x4 &&& 31)) &&& (1 : Int32))], (iq_sh l, I, J, X))) (fun _ => rfl) ?_
    rcases iq_ite h with ⟨hc_, h⟩ | ⟨hc_, h⟩
    · refine iq_G_pos (c := (((I 4 4) >>> (x4 &&& 31)) &&& (1 : Int32)) = 0) (σ1 := (64, [some (.ref 63), some (.int x1), some (.int x2), some (.int x3), some (.int x4), none], [], (iq_sh l, I, J, X))) (fun _ => rfl) hc_ ?_
      refine iq_G_go (k := 2) (σ' := (6, [some (.ref 63), some (.int x1), some (.int x2), some (.int x3), some (.int (x4 + (1 : Int32))), none], [], (iq_sh l, I, J, X))) (fun _ => rfl) ?_
      cases h
      exact iq_G_fg (L := [some (.ref 63), some (.int x1), some (.int x2), some (.int x3), some (.int (x4 + (1 : Int32))), none]) (And.intro rfl (And.intro rfl (And.intro rfl (And.intro rfl (And.intro rfl trivial))))) (hc (x3, (x4 + (1 : Int32))) rfl)
    · refine iq_G_neg (c := (((I 4 4) >>> (x4 &&& 31)) &&& (1 : Int32)) = 0) (σ1 := (28, [some (.ref 63), some (.int x1), some (.int x2), some (.int x3), some (.int x4), none], [], (iq_sh l, I, J, X))) (fun _ => rfl) hc_ ?_
      refine iq_G_go (k := 4) (σ' := (35, [some (.ref 63), some (.int x1), some (.int x2), some (.int x3), some (.int x4), none], [.int x4, .int x1, .ref 4], (iq_sh l, I, J, X))) (fun _ => rfl) ?_
      obtain ⟨q1, hq1, h⟩ := iq_bnd h
      refine iq_G_call (σ' := (38, [some (.ref 63), some (.int x1), some (.int x2), some (.int x3), some (.int x4), none], [.int q1], (iq_sh l, I, J, X))) (fun _ => rfl) (zU_leadsBy_4_ok l x1 x4 I J X hq1) rfl rfl ?_
      refine iq_G_go (k := 5) (σ' := (47, [some (.ref 63), some (.int x1), some (.int x2), some (.int x3), some (.int x4), some (.int q1)], [.int x4, .ref 4, .int x3], (iq_sh l, I, J, X))) (fun _ => rfl) ?_
      obtain ⟨q2, hq2, h⟩ := iq_bnd h
      refine iq_G_call (σ' := (50, [some (.ref 63), some (.int x1), some (.int x2), some (.int x3), some (.int x4), some (.int q1)], [.int q2, .int x3], (iq_sh l, I, J, X))) (fun _ => rfl) (zU_priceOf_ok l x4 I J X hq2) rfl rfl ?_
      refine iq_G_go (k := 5) (σ' := (56, [some (.ref 63), some (.int x1), some (.int x2), some (.int x3), some (.int x4), some (.int q1)], [.int (x2 - (1 : Int32)), .int q1, .ref 63, .int q2, .int x3], (iq_sh l, I, J, X))) (fun _ => rfl) ?_
      obtain ⟨q3, hq3, h⟩ := iq_bnd h
      refine iq_G_call (σ' := (59, [some (.ref 63), some (.int x1), some (.int x2), some (.int x3), some (.int x4), some (.int q1)], [.int q3, .int q2, .int x3], (iq_sh l, I, J, X))) (fun _ => rfl) (zP_leastCost_ok l q1 (x2 - (1 : Int32)) I J X hq3) rfl rfl ?_
      refine iq_G_go (k := 5) (σ' := (6, [some (.ref 63), some (.int x1), some (.int x2), some (.int (ir_min x3 (q2 + q3))), some (.int (x4 + (1 : Int32))), some (.int q1)], [], (iq_sh l, I, J, X))) (fun _ => rfl) ?_
      cases h
      exact iq_G_fg (L := [some (.ref 63), some (.int x1), some (.int x2), some (.int (ir_min x3 (q2 + q3))), some (.int (x4 + (1 : Int32))), none]) (And.intro rfl (And.intro rfl (And.intro rfl (And.intro rfl (And.intro rfl trivial))))) (hc ((ir_min x3 (q2 + q3)), (x4 + (1 : Int32))) rfl)
set_option maxRecDepth 100000 in
theorem zP_cheapestBehind_l6_ok (l : Nat)  (x1 : Int32) (x2 : Int32) (I : iq_I) (J : iq_J) (X : iq_X) {n : Nat} {v : Int32 × Int32} {w : Int32} (h : zP_cheapestBehind_l6 x1 x2 I n v = some w) (r : iq_R × iq_M) (hq : iq_Gg 1 72 (70, [none, none, none, some (.int w), none, none], [], (iq_sh l, I, J, X)) r) : iq_Gg 1 72 (6, [some (.ref 63), some (.int x1), some (.int x2), some (.int v.1), some (.int v.2), none], [], (iq_sh l, I, J, X)) r :=
  iq_lp_ok (σ := fun v => (6, [some (.ref 63), some (.int x1), some (.int x2), some (.int v.1), some (.int v.2), none], [], (iq_sh l, I, J, X))) (Q := fun w r => iq_Gg 1 72 (70, [none, none, none, some (.int w), none, none], [], (iq_sh l, I, J, X)) r) (fun v q hv r h1 h2 => zP_cheapestBehind_l6_bok l x1 x2 I J X v.1 v.2 hv r h1 h2) h r hq
set_option maxRecDepth 100000 in
theorem zP_cheapestBehind_ok (l : Nat)  (x1 : Int32) (x2 : Int32) (I : iq_I) (J : iq_J) (X : iq_X) {q : Int32} (h : zP_cheapestBehind x1 x2 I = some q) : iq_Cc 2 72 [.ref 63, .int x1, .int x2] (iq_sh l, I, J, X) (.inl (some (.int q)), (iq_sh l, I, J, X)) := by
  refine iq_Cc_of (L := [some (.ref 63), some (.int x1), some (.int x2), none, none, none]) rfl rfl ?_
  unfold zP_cheapestBehind at h
  refine iq_G_go (k := 4) (σ' := (6, [some (.ref 63), some (.int x1), some (.int x2), some (.int (1000000 : Int32)), some (.int (0 : Int32)), none], [], (iq_sh l, I, J, X))) (fun _ => rfl) ?_
  obtain ⟨w4, hw4, h⟩ := iq_bnd h
  refine iq_G_fg (L := [some (.ref 63), some (.int x1), some (.int x2), some (.int (1000000 : Int32)), some (.int (0 : Int32)), none]) (And.intro rfl (And.intro rfl (And.intro rfl (And.intro rfl (And.intro rfl trivial))))) ?_
  refine zP_cheapestBehind_l6_ok l x1 x2 I J X hw4 _ ?_
  show iq_Gg 1 72 (70, [none, none, none, some (.int w4), none, none], [], (iq_sh l, I, J, X)) _
  refine iq_G_go (k := 1) (σ' := (71, [none, none, none, some (.int w4), none, none], [.int w4], (iq_sh l, I, J, X))) (fun _ => rfl) ?_
  cases h
  exact iq_G_ret (fun _ => rfl)
set_option maxRecDepth 100000 in
theorem zP_priceRows_l2_bok (l : Nat)   (J : iq_J) (X : iq_X) (x1 : Int32) (I : iq_I) {q : (Int32 × iq_I) ⊕ (iq_I)} (h : zP_priceRows_l2_b  x1 I = some q) (r : iq_R × iq_M) (hc : ∀ v, q = .inl v → iq_Gg 2 71 (2, [some (.ref 63), some (.int v.1), none], [], (iq_sh l, v.2, J, X)) r) (hx : ∀ w, q = .inr w → iq_Gg 2 71 (21, [some (.ref 63), none, none], [], (iq_sh l, w, J, X)) r) : iq_Gg 2 71 (2, [some (.ref 63), some (.int x1), none], [], (iq_sh l, I, J, X)) r := by
  unfold zP_priceRows_l2_b at h
  refine iq_G_go (k := 2) (σ' := (5, [some (.ref 63), some (.int x1), none], [.int (10 : Int32), .int x1], (iq_sh l, I, J, X))) (fun _ => rfl) ?_
  rcases iq_ite h with ⟨hc_, h⟩ | ⟨hc_, h⟩
  · refine iq_G_pos (c := (10 : Int32) ≤ x1) (σ1 := (21, [some (.ref 63), some (.int x1), none], [], (iq_sh l, I, J, X))) (fun _ => rfl) hc_ ?_
    cases h
    exact iq_G_fg (L := [some (.ref 63), none, none]) (And.intro rfl trivial) (hx I rfl)
  · refine iq_G_neg (c := (10 : Int32) ≤ x1) (σ1 := (8, [some (.ref 63), some (.int x1), none], [], (iq_sh l, I, J, X))) (fun _ => rfl) hc_ ?_
    refine iq_G_go (k := 4) (σ' := (14, [some (.ref 63), some (.int x1), none], [.int (0 : Int32), .int x1, .ref 66], (iq_sh l, I, J, X))) (fun _ => rfl) ?_
    obtain ⟨hc_, h⟩ := iq_itn h
    refine iq_G_pos (c := iq_in x1 410) (σ1 := (15, [some (.ref 63), some (.int x1), none], [], (iq_sh l, (iq_upI I 66 (Int32.toNatClampNeg x1) (0 : Int32)), J, X))) (fun _ => rfl) hc_ ?_
    obtain ⟨I1, eI1, h⟩ := ir_letG h
    rw [← eI1]
    clear eI1
    refine iq_G_go (k := 2) (σ' := (2, [some (.ref 63), some (.int (x1 + (1 : Int32))), none], [], (iq_sh l, I1, J, X))) (fun _ => rfl) ?_
    cases h
    exact iq_G_fg (L := [some (.ref 63), some (.int (x1 + (1 : Int32))), none]) (And.intro rfl (And.intro rfl trivial)) (hc ((x1 + (1 : Int32)), I1) rfl)
set_option maxRecDepth 100000 in
theorem zP_priceRows_l2_ok (l : Nat)   (J : iq_J) (X : iq_X) {n : Nat} {v : Int32 × iq_I} {w : iq_I} (h : zP_priceRows_l2  n v = some w) (r : iq_R × iq_M) (hq : iq_Gg 2 71 (21, [some (.ref 63), none, none], [], (iq_sh l, w, J, X)) r) : iq_Gg 2 71 (2, [some (.ref 63), some (.int v.1), none], [], (iq_sh l, v.2, J, X)) r :=
  iq_lp_ok (σ := fun v => (2, [some (.ref 63), some (.int v.1), none], [], (iq_sh l, v.2, J, X))) (Q := fun w r => iq_Gg 2 71 (21, [some (.ref 63), none, none], [], (iq_sh l, w, J, X)) r) (fun v q hv r h1 h2 => zP_priceRows_l2_bok l J X v.1 v.2 hv r h1 h2) h r hq
set_option maxRecDepth 100000 in
theorem zP_priceRows_l31_bok (l : Nat)  (x1 : Int32) (J : iq_J) (X : iq_X) (x2 : Int32) (I : iq_I) {q : (Int32 × iq_I) ⊕ (iq_I)} (h : zP_priceRows_l31_b x1 x2 I = some q) (r : iq_R × iq_M) (hc : ∀ v, q = .inl v → iq_Gg 2 71 (31, [some (.ref 63), some (.int x1), some (.int v.1)], [], (iq_sh l, v.2, J, X)) r) (hx : ∀ w, q = .inr w → iq_Gg 2 71 (65, [some (.ref 63), some (.int x1), none], [], (iq_sh l, w, J, X)) r) : iq_Gg 2 71 (31, [some (.ref 63), some (.int x1), some (.int x2)], [], (iq_sh l, I, J, X)) r := by
  unfold zP_priceRows_l31_b at h
  refine iq_G_go (k := 4) (σ' := (39, [some (.ref 63), some (.int x1), some (.int x2)], [.int (I 4 0), .int x2], (iq_sh l, I, J, X))) (fun _ => rfl) ?_
  rcases iq_ite h with ⟨hc_, h⟩ | ⟨hc_, h⟩
  · refine iq_G_pos (c := (I 4 0) ≤ x2) (σ1 := (65, [some (.ref 63), some (.int x1), some (.int x2)], [], (iq_sh l, I, J, X))) (fun _ => rfl) hc_ ?_
    cases h
    exact iq_G_fg (L := [some (.ref 63), some (.int x1), none]) (And.intro rfl (And.intro rfl trivial)) (hx I rfl)
  · refine iq_G_neg (c := (I 4 0) ≤ x2) (σ1 := (42, [some (.ref 63), some (.int x1), some (.int x2)], [], (iq_sh l, I, J, X))) (fun _ => rfl) hc_ ?_
    refine iq_G_go (k := 10) (σ' := (55, [some (.ref 63), some (.int x1), some (.int x2)], [.int x1, .int x2, .ref 63, .int ((x1 * (10 : Int32)) + x2), .ref 66], (iq_sh l, I, J, X))) (fun _ => rfl) ?_
    obtain ⟨q3, hq3, h⟩ := iq_bnd h
    refine iq_G_call (σ' := (58, [some (.ref 63), some (.int x1), some (.int x2)], [.int q3, .int ((x1 * (10 : Int32)) + x2), .ref 66], (iq_sh l, I, J, X))) (fun _ => rfl) (zP_cheapestBehind_ok l x2 x1 I J X hq3) rfl rfl ?_
    obtain ⟨hc_, h⟩ := iq_itn h
    refine iq_G_pos (c := iq_in ((x1 * (10 : Int32)) + x2) 410) (σ1 := (59, [some (.ref 63), some (.int x1), some (.int x2)], [], (iq_sh l, (iq_upI I 66 (Int32.toNatClampNeg ((x1 * (10 : Int32)) + x2)) q3), J, X))) (fun _ => rfl) hc_ ?_
    obtain ⟨I4, eI4, h⟩ := ir_letG h
    rw [← eI4]
    clear eI4
    refine iq_G_go (k := 2) (σ' := (31, [some (.ref 63), some (.int x1), some (.int (x2 + (1 : Int32)))], [], (iq_sh l, I4, J, X))) (fun _ => rfl) ?_
    cases h
    exact iq_G_fg (L := [some (.ref 63), some (.int x1), some (.int (x2 + (1 : Int32)))]) (And.intro rfl (And.intro rfl (And.intro rfl trivial))) (hc ((x2 + (1 : Int32)), I4) rfl)
set_option maxRecDepth 100000 in
theorem zP_priceRows_l31_ok (l : Nat)  (x1 : Int32) (J : iq_J) (X : iq_X) {n : Nat} {v : Int32 × iq_I} {w : iq_I} (h : zP_priceRows_l31 x1 n v = some w) (r : iq_R × iq_M) (hq : iq_Gg 2 71 (65, [some (.ref 63), some (.int x1), none], [], (iq_sh l, w, J, X)) r) : iq_Gg 2 71 (31, [some (.ref 63), some (.int x1), some (.int v.1)], [], (iq_sh l, v.2, J, X)) r :=
  iq_lp_ok (σ := fun v => (31, [some (.ref 63), some (.int x1), some (.int v.1)], [], (iq_sh l, v.2, J, X))) (Q := fun w r => iq_Gg 2 71 (65, [some (.ref 63), some (.int x1), none], [], (iq_sh l, w, J, X)) r) (fun v q hv r h1 h2 => zP_priceRows_l31_bok l x1 J X v.1 v.2 hv r h1 h2) h r hq
set_option maxRecDepth 100000 in
theorem zP_priceRows_l23_bok (l : Nat)   (J : iq_J) (X : iq_X) (x1 : Int32) (I : iq_I) {q : (Int32 × iq_I) ⊕ (iq_I)} (h : zP_priceRows_l23_b  x1 I = some q) (r : iq_R × iq_M) (hc : ∀ v, q = .inl v → iq_Gg 2 71 (23, [some (.ref 63), some (.int v.1), none], [], (iq_sh l, v.2, J, X)) r) (hx : ∀ w, q = .inr w → iq_Gg 2 71 (71, [none, none, none], [], (iq_sh l, w, J, X)) r) : iq_Gg 2 71 (23, [some (.ref 63), some (.int x1), none], [], (iq_sh l, I, J, X)) r := by
  unfold zP_priceRows_l23_b at h
  refine iq_G_go (k := 2) (σ' := (26, [some (.ref 63), some (.int x1), none], [.int (40 : Int32), .int x1], (iq_sh l, I, J, X))) (fun _ => rfl) ?_
  rcases iq_ite h with ⟨hc_, h⟩ | ⟨hc_, h⟩
  · refine iq_G_pos (c := (40 : Int32) < x1) (σ1 := (71, [some (.ref 63), some (.int x1), none], [], (iq_sh l, I, J, X))) (fun _ => rfl) hc_ ?_
    cases h
    exact iq_G_fg (L := [none, none, none]) trivial (hx I rfl)
  · refine iq_G_neg (c := (40 : Int32) < x1) (σ1 := (29, [some (.ref 63), some (.int x1), none], [], (iq_sh l, I, J, X))) (fun _ => rfl) hc_ ?_
    refine iq_G_go (k := 2) (σ' := (31, [some (.ref 63), some (.int x1), some (.int (0 : Int32))], [], (iq_sh l, I, J, X))) (fun _ => rfl) ?_
    obtain ⟨w5, hw5, h⟩ := iq_bnd h
    refine iq_G_fg (L := [some (.ref 63), some (.int x1), some (.int (0 : Int32))]) (And.intro rfl (And.intro rfl (And.intro rfl trivial))) ?_
    refine zP_priceRows_l31_ok l x1 J X hw5 _ ?_
    show iq_Gg 2 71 (65, [some (.ref 63), some (.int x1), none], [], (iq_sh l, w5, J, X)) _
    refine iq_G_go (k := 2) (σ' := (23, [some (.ref 63), some (.int (x1 + (1 : Int32))), none], [], (iq_sh l, w5, J, X))) (fun _ => rfl) ?_
    cases h
    exact iq_G_fg (L := [some (.ref 63), some (.int (x1 + (1 : Int32))), none]) (And.intro rfl (And.intro rfl trivial)) (hc ((x1 + (1 : Int32)), w5) rfl)
set_option maxRecDepth 100000 in
theorem zP_priceRows_l23_ok (l : Nat)   (J : iq_J) (X : iq_X) {n : Nat} {v : Int32 × iq_I} {w : iq_I} (h : zP_priceRows_l23  n v = some w) (r : iq_R × iq_M) (hq : iq_Gg 2 71 (71, [none, none, none], [], (iq_sh l, w, J, X)) r) : iq_Gg 2 71 (23, [some (.ref 63), some (.int v.1), none], [], (iq_sh l, v.2, J, X)) r :=
  iq_lp_ok (σ := fun v => (23, [some (.ref 63), some (.int v.1), none], [], (iq_sh l, v.2, J, X))) (Q := fun w r => iq_Gg 2 71 (71, [none, none, none], [], (iq_sh l, w, J, X)) r) (fun v q hv r h1 h2 => zP_priceRows_l23_bok l J X v.1 v.2 hv r h1 h2) h r hq
set_option maxRecDepth 100000 in
theorem zP_priceRows_ok (l : Nat)   (I : iq_I) (J : iq_J) (X : iq_X) {q : iq_I} (h : zP_priceRows I = some q) : iq_Cc 3 71 [.ref 63] (iq_sh l, I, J, X) (.inl none, (iq_sh l, q, J, X)) := by
  refine iq_Cc_of (L := [some (.ref 63), none, none]) rfl rfl ?_
  unfold zP_priceRows at h
  refine iq_G_go (k := 2) (σ' := (2, [some (.ref 63), some (.int (0 : Int32)), none], [], (iq_sh l, I, J, X))) (fun _ => rfl) ?_
  obtain ⟨w2, hw2, h⟩ := iq_bnd h
  refine iq_G_fg (L := [some (.ref 63), some (.int (0 : Int32)), none]) (And.intro rfl (And.intro rfl trivial)) ?_
  refine zP_priceRows_l2_ok l J X hw2 _ ?_
  show iq_Gg 2 71 (21, [some (.ref 63), none, none], [], (iq_sh l, w2, J, X)) _
  refine iq_G_go (k := 2) (σ' := (23, [some (.ref 63), some (.int (1 : Int32)), none], [], (iq_sh l, w2, J, X))) (fun _ => rfl) ?_
  obtain ⟨w6, hw6, h⟩ := iq_bnd h
  refine iq_G_fg (L := [some (.ref 63), some (.int (1 : Int32)), none]) (And.intro rfl (And.intro rfl trivial)) ?_
  refine zP_priceRows_l23_ok l J X hw6 _ ?_
  show iq_Gg 2 71 (71, [none, none, none], [], (iq_sh l, w6, J, X)) _
  cases h
  exact iq_G_ret (fun _ => rfl)
set_option maxRecDepth 100000 in
theorem zP_longestFor_l3_bok (l : Nat)  (x1 : Int32) (x2 : Int32) (I : iq_I) (J : iq_J) (X : iq_X) (x3 : Int32)  {q : (Int32) ⊕ ((Unit) ⊕ (Int32))} (h : zP_longestFor_l3_b x1 x2 I x3 = some q) (r : iq_R × iq_M) (hc : ∀ v, q = .inl v → iq_Gg 1 75 (3, [some (.ref 63), some (.int x1), some (.int x2), some (.int v)], [], (iq_sh l, I, J, X)) r) (hx : ∀ w, q = .inr w → (∀ a, w = .inl a → iq_Gg 1 75 (25, [none, none, none, none], [], (iq_sh l, I, J, X)) r) ∧ (∀ b, w = .inr b → r = (.inl (some (.int b)), (iq_sh l, I, J, X)))) : iq_Gg 1 75 (3, [some (.ref 63), some (.int x1), some (.int x2), some (.int x3)], [], (iq_sh l, I, J, X)) r := by
  unfold zP_longestFor_l3_b at h
  refine iq_G_go (k := 1) (σ' := (4, [some (.ref 63), some (.int x1), some (.int x2), some (.int x3)], [.int x3], (iq_sh l, I, J, X))) (fun _ => rfl) ?_
  rcases iq_ite h with ⟨hc_, h⟩ | ⟨hc_, h⟩
  · refine iq_G_pos (c := x3 ≤ 0) (σ1 := (25, [some (.ref 63), some (.int x1), some (.int x2), some (.int x3)], [], (iq_sh l, I, J, X))) (fun _ => rfl) hc_ ?_
    cases h
    exact iq_G_fg (L := [none, none, none, none]) trivial ((hx (.inl ()) rfl).1 () rfl)
  · refine iq_G_neg (c := x3 ≤ 0) (σ1 := (7, [some (.ref 63), some (.int x1), some (.int x2), some (.int x3)], [], (iq_sh l, I, J, X))) (fun _ => rfl) hc_ ?_
    refine iq_G_go (k := 3) (σ' := (10, [some (.ref 63), some (.int x1), some (.int x2), some (.int x3)], [.int x3, .int x1, .ref 63], (iq_sh l, I, J, X))) (fun _ => rfl) ?_
    obtain ⟨q1, hq1, h⟩ := iq_bnd h
    refine iq_G_call (σ' := (13, [some (.ref 63), some (.int x1), some (.int x2), some (.int x3)], [.int q1], (iq_sh l, I, J, X))) (fun _ => rfl) (zP_leastCost_ok l x1 x3 I J X hq1) rfl rfl ?_
    refine iq_G_go (k := 1) (σ' := (14, [some (.ref 63), some (.int x1), some (.int x2), some (.int x3)], [.int x2, .int q1], (iq_sh l, I, J, X))) (fun _ => rfl) ?_
    rcases iq_ite h with ⟨hc_, h⟩ | ⟨hc_, h⟩
    · refine iq_G_pos (c := x2 < q1) (σ1 := (19, [some (.ref 63), some (.int x1), some (.int x2), some (.int x3)], [], (iq_sh l, I, J, X))) (fun _ => rfl) hc_ ?_
      refine iq_G_go (k := 2) (σ' := (3, [some (.ref 63), some (.int x1), some (.int x2), some (.int (x3 + (-1 : Int32)))], [], (iq_sh l, I, J, X))) (fun _ => rfl) ?_
      cases h
      exact iq_G_fg (L := [some (.ref 63), some (.int x1), some (.int x2), some (.int (x3 + (-1 : Int32)))]) (And.intro rfl (And.intro rfl (And.intro rfl (And.intro rfl trivial)))) (hc (x3 + (-1 : Int32)) rfl)
    · refine iq_G_neg (c := x2 < q1) (σ1 := (17, [some (.ref 63), some (.int x1), some (.int x2), some (.int x3)], [], (iq_sh l, I, J, X))) (fun _ => rfl) hc_ ?_
      refine iq_G_go (k := 1) (σ' := (18, [some (.ref 63), some (.int x1), some (.int x2), some (.int x3)], [.int x3], (iq_sh l, I, J, X))) (fun _ => rfl) ?_
      cases h
      obtain rfl := (hx _ rfl).2 _ rfl
      exact iq_G_ret (fun _ => rfl)
set_option maxRecDepth 100000 in
theorem zP_longestFor_l3_ok (l : Nat)  (x1 : Int32) (x2 : Int32) (I : iq_I) (J : iq_J) (X : iq_X) {n : Nat} {v : Int32} {w : (Unit) ⊕ (Int32)} (h : zP_longestFor_l3 x1 x2 I n v = some w) (r : iq_R × iq_M) (hq : (∀ a, w = .inl a → iq_Gg 1 75 (25, [none, none, none, none], [], (iq_sh l, I, J, X)) r) ∧ (∀ b, w = .inr b → r = (.inl (some (.int b)), (iq_sh l, I, J, X)))) : iq_Gg 1 75 (3, [some (.ref 63), some (.int x1), some (.int x2), some (.int v)], [], (iq_sh l, I, J, X)) r :=
  iq_lp_ok (σ := fun v => (3, [some (.ref 63), some (.int x1), some (.int x2), some (.int v)], [], (iq_sh l, I, J, X))) (Q := fun w r => (∀ a, w = .inl a → iq_Gg 1 75 (25, [none, none, none, none], [], (iq_sh l, I, J, X)) r) ∧ (∀ b, w = .inr b → r = (.inl (some (.int b)), (iq_sh l, I, J, X)))) (fun v q hv r h1 h2 => zP_longestFor_l3_bok l x1 x2 I J X v hv r h1 h2) h r hq
set_option maxRecDepth 100000 in
theorem zP_longestFor_ok (l : Nat)  (x1 : Int32) (x2 : Int32) (I : iq_I) (J : iq_J) (X : iq_X) {q : Int32} (h : zP_longestFor x1 x2 I = some q) : iq_Cc 2 75 [.ref 63, .int x1, .int x2] (iq_sh l, I, J, X) (.inl (some (.int q)), (iq_sh l, I, J, X)) := by
  refine iq_Cc_of (L := [some (.ref 63), some (.int x1), some (.int x2), none]) rfl rfl ?_
  unfold zP_longestFor at h
  refine iq_G_go (k := 2) (σ' := (3, [some (.ref 63), some (.int x1), some (.int x2), some (.int (40 : Int32))], [], (iq_sh l, I, J, X))) (fun _ => rfl) ?_
  obtain ⟨w2, hw2, h⟩ := iq_bnd h
  refine iq_G_fg (L := [some (.ref 63), some (.int x1), some (.int x2), some (.int (40 : Int32))]) (And.intro rfl (And.intro rfl (And.intro rfl (And.intro rfl trivial)))) ?_
  refine zP_longestFor_l3_ok l x1 x2 I J X hw2 _ ⟨fun a3 ha => ?_, fun b4 hb => ?_⟩
  · subst ha
    replace h := ir_smL h
    show iq_Gg 1 75 (25, [none, none, none, none], [], (iq_sh l, I, J, X)) _
    refine iq_G_go (k := 1) (σ' := (26, [none, none, none, none], [.int (0 : Int32)], (iq_sh l, I, J, X))) (fun _ => rfl) ?_
    cases h
    exact iq_G_ret (fun _ => rfl)
  · subst hb
    replace h := ir_smR h
    cases h
    rfl
set_option maxRecDepth 100000 in
theorem zP_mostFor_ok (l : Nat)  (x1 : Int32) (x2 : Int32) (I : iq_I) (J : iq_J) (X : iq_X) {q : Int32 × iq_I} (h : zP_mostFor x1 x2 I = some q) : iq_Cc 4 74 [.ref 63, .int x1, .int x2] (iq_sh l, I, J, X) (.inl (some (.int q.1)), (iq_sh l, q.2, J, X)) := by
  refine iq_Cc_of (L := [some (.ref 63), some (.int x1), some (.int x2)]) rfl rfl ?_
  unfold zP_mostFor at h
  refine iq_G_go (k := 1) (σ' := (1, [some (.ref 63), some (.int x1), some (.int x2)], [.ref 63], (iq_sh l, I, J, X))) (fun _ => rfl) ?_
  obtain ⟨q1, hq1, h⟩ := iq_bnd h
  refine iq_G_call (σ' := (4, [some (.ref 63), some (.int x1), some (.int x2)], [], (iq_sh l, q1, J, X))) (fun _ => rfl) (zP_priceRows_ok l  I J X hq1) rfl rfl ?_
  refine iq_G_go (k := 3) (σ' := (7, [some (.ref 63), some (.int x1), some (.int x2)], [.int x2, .int x1, .ref 63], (iq_sh l, q1, J, X))) (fun _ => rfl) ?_
  obtain ⟨q2, hq2, h⟩ := iq_bnd h
  refine iq_G_call (σ' := (10, [some (.ref 63), some (.int x1), some (.int x2)], [.int q2], (iq_sh l, q1, J, X))) (fun _ => rfl) (zP_longestFor_ok l x1 x2 q1 J X hq2) rfl rfl ?_
  cases h
  exact iq_G_ret (fun _ => rfl)
set_option maxRecDepth 100000 in
theorem zP_firstFor_l3_bok (l : Nat)  (x1 : Int32) (x2 : Int32) (x3 : Int32) (I : iq_I) (J : iq_J) (X : iq_X) (x4 : Int32)  {q : (Int32) ⊕ ((Unit) ⊕ (Int32))} (h : zP_firstFor_l3_b x1 x2 x3 I x4 = some q) (r : iq_R × iq_M) (hc : ∀ v, q = .inl v → iq_Gg 1 77 (3, [some (.ref 63), some (.int x1), some (.int x2), some (.int x3), some (.int v), none, none], [], (iq_sh l, I, J, X)) r) (hx : ∀ w, q = .inr w → (∀ a, w = .inl a → iq_Gg 1 77 (70, [none, none, none, none, none, none, none], [], (iq_sh l, I, J, X)) r) ∧ (∀ b, w = .inr b → r = (.inl (some (.int b)), (iq_sh l, I, J, X)))) : iq_Gg 1 77 (3, [some (.ref 63), some (.int x1), some (.int x2), some (.int x3), some (.int x4), none, none], [], (iq_sh l, I, J, X)) r := by
  unfold zP_firstFor_l3_b at h
  refine iq_G_go (k := 4) (σ' := (12, [some (.ref 63), some (.int x1), some (.int x2), some (.int x3), some (.int x4), none, none], [.int (I 4 2), .int x4], (iq_sh l, I, J, X))) (fun _ => rfl) ?_
  rcases iq_ite h with ⟨hc_, h⟩ | ⟨hc_, h⟩
  · refine iq_G_pos (c := (I 4 2) ≤ x4) (σ1 := (70, [some (.ref 63), some (.int x1), some (.int x2), some (.int x3), some (.int x4), none, none], [], (iq_sh l, I, J, X))) (fun _ => rfl) hc_ ?_
    cases h
    exact iq_G_fg (L := [none, none, none, none, none, none, none]) trivial ((hx (.inl ()) rfl).1 () rfl)
  · refine iq_G_neg (c := (I 4 2) ≤ x4) (σ1 := (15, [some (.ref 63), some (.int x1), some (.int x2), some (.int x3), some (.int x4), none, none], [], (iq_sh l, I, J, X))) (fun _ => rfl) hc_ ?_
    refine iq_G_go (k := 5) (σ' := (25, [some (.ref 63), some (.int x1), some (.int x2), some (.int x3), some (.int x4), none, none], [.int x4, .ref 4, .ref 4], (iq_sh l, I, J, X))) (fun _ => rfl) ?_
    obtain ⟨q1, hq1, h⟩ := iq_bnd h
    refine iq_G_call (σ' := (28, [some (.ref 63), some (.int x1), some (.int x2), some (.int x3), some (.int x4), none, none], [.int q1, .ref 4], (iq_sh l, I, J, X))) (fun _ => rfl) (zU_kindOf_ok l x4 I J X hq1) rfl rfl ?_
    obtain ⟨q2, hq2, h⟩ := iq_bnd h
    refine iq_G_call (σ' := (31, [some (.ref 63), some (.int x1), some (.int x2), some (.int x3), some (.int x4), none, none], [.int q2], (iq_sh l, I, J, X))) (fun _ => rfl) (zU_priceOf_ok l q1 I J X hq2) rfl rfl ?_
    refine iq_G_go (k := 5) (σ' := (40, [some (.ref 63), some (.int x1), some (.int x2), some (.int x3), some (.int x4), some (.int q2), none], [.int x4, .int x1, .ref 4], (iq_sh l, I, J, X))) (fun _ => rfl) ?_
    obtain ⟨q3, hq3, h⟩ := iq_bnd h
    refine iq_G_call (σ' := (43, [some (.ref 63), some (.int x1), some (.int x2), some (.int x3), some (.int x4), some (.int q2), none], [.int q3], (iq_sh l, I, J, X))) (fun _ => rfl) (zU_leadsTo_4_ok l x1 x4 I J X hq3) rfl rfl ?_
    refine iq_G_go (k := 7) (σ' := (53, [some (.ref 63), some (.int x1), some (.int x2), some (.int x3), some (.int x4), some (.int q2), some (.int q3)], [.int (x3 - (1 : Int32)), .int q3, .ref 63, .int q2], (iq_sh l, I, J, X))) (fun _ => rfl) ?_
    obtain ⟨q4, hq4, h⟩ := iq_bnd h
    refine iq_G_call (σ' := (56, [some (.ref 63), some (.int x1), some (.int x2), some (.int x3), some (.int x4), some (.int q2), some (.int q3)], [.int q4, .int q2], (iq_sh l, I, J, X))) (fun _ => rfl) (zP_leastCost_ok l q3 (x3 - (1 : Int32)) I J X hq4) rfl rfl ?_
    refine iq_G_go (k := 2) (σ' := (58, [some (.ref 63), some (.int x1), some (.int x2), some (.int x3), some (.int x4), some (.int q2), some (.int q3)], [.int x2, .int (q2 + q4)], (iq_sh l, I, J, X))) (fun _ => rfl) ?_
    rcases iq_ite h with ⟨hc_, h⟩ | ⟨hc_, h⟩
    · refine iq_G_pos (c := x2 < (q2 + q4)) (σ1 := (64, [some (.ref 63), some (.int x1), some (.int x2), some (.int x3), some (.int x4), some (.int q2), some (.int q3)], [], (iq_sh l, I, J, X))) (fun _ => rfl) hc_ ?_
      refine iq_G_go (k := 2) (σ' := (3, [some (.ref 63), some (.int x1), some (.int x2), some (.int x3), some (.int (x4 + (1 : Int32))), some (.int q2), some (.int q3)], [], (iq_sh l, I, J, X))) (fun _ => rfl) ?_
      cases h
      exact iq_G_fg (L := [some (.ref 63), some (.int x1), some (.int x2), some (.int x3), some (.int (x4 + (1 : Int32))), none, none]) (And.intro rfl (And.intro rfl (And.intro rfl (And.intro rfl (And.intro rfl trivial))))) (hc (x4 + (1 : Int32)) rfl)
    · refine iq_G_neg (c := x2 < (q2 + q4)) (σ1 := (61, [some (.ref 63), some (.int x1), some (.int x2), some (.int x3), some (.int x4), some (.int q2), some (.int q3)], [], (iq_sh l, I, J, X))) (fun _ => rfl) hc_ ?_
      refine iq_G_go (k := 1) (σ' := (63, [some (.ref 63), some (.int x1), some (.int x2), some (.int x3), some (.int x4), some (.int q2), some (.int q3)], [.int x4], (iq_sh l, I, J, X))) (fun _ => rfl) ?_
      cases h
      obtain rfl := (hx _ rfl).2 _ rfl
      exact iq_G_ret (fun _ => rfl)
set_option maxRecDepth 100000 in
theorem zP_firstFor_l3_ok (l : Nat)  (x1 : Int32) (x2 : Int32) (x3 : Int32) (I : iq_I) (J : iq_J) (X : iq_X) {n : Nat} {v : Int32} {w : (Unit) ⊕ (Int32)} (h : zP_firstFor_l3 x1 x2 x3 I n v = some w) (r : iq_R × iq_M) (hq : (∀ a, w = .inl a → iq_Gg 1 77 (70, [none, none, none, none, none, none, none], [], (iq_sh l, I, J, X)) r) ∧ (∀ b, w = .inr b → r = (.inl (some (.int b)), (iq_sh l, I, J, X)))) : iq_Gg 1 77 (3, [some (.ref 63), some (.int x1), some (.int x2), some (.int x3), some (.int v), none, none], [], (iq_sh l, I, J, X)) r :=
  iq_lp_ok (σ := fun v => (3, [some (.ref 63), some (.int x1), some (.int x2), some (.int x3), some (.int v), none, none], [], (iq_sh l, I, J, X))) (Q := fun w r => (∀ a, w = .inl a → iq_Gg 1 77 (70, [none, none, none, none, none, none, none], [], (iq_sh l, I, J, X)) r) ∧ (∀ b, w = .inr b → r = (.inl (some (.int b)), (iq_sh l, I, J, X)))) (fun v q hv r h1 h2 => zP_firstFor_l3_bok l x1 x2 x3 I J X v hv r h1 h2) h r hq
set_option maxRecDepth 100000 in
theorem zP_firstFor_ok (l : Nat)  (x1 : Int32) (x2 : Int32) (x3 : Int32) (I : iq_I) (J : iq_J) (X : iq_X) {q : Int32} (h : zP_firstFor x1 x2 x3 I = some q) : iq_Cc 2 77 [.ref 63, .int x1, .int x2, .int x3] (iq_sh l, I, J, X) (.inl (some (.int q)), (iq_sh l, I, J, X)) := by
  refine iq_Cc_of (L := [some (.ref 63), some (.int x1), some (.int x2), some (.int x3), none, none, none]) rfl rfl ?_
  unfold zP_firstFor at h
  refine iq_G_go (k := 2) (σ' := (3, [some (.ref 63), some (.int x1), some (.int x2), some (.int x3), some (.int (0 : Int32)), none, none], [], (iq_sh l, I, J, X))) (fun _ => rfl) ?_
  obtain ⟨w5, hw5, h⟩ := iq_bnd h
  refine iq_G_fg (L := [some (.ref 63), some (.int x1), some (.int x2), some (.int x3), some (.int (0 : Int32)), none, none]) (And.intro rfl (And.intro rfl (And.intro rfl (And.intro rfl (And.intro rfl trivial))))) ?_
  refine zP_firstFor_l3_ok l x1 x2 x3 I J X hw5 _ ⟨fun a6 ha => ?_, fun b7 hb => ?_⟩
  · subst ha
    replace h := ir_smL h
    show iq_Gg 1 77 (70, [none, none, none, none, none, none, none], [], (iq_sh l, I, J, X)) _
    refine iq_G_go (k := 1) (σ' := (71, [none, none, none, none, none, none, none], [.int (-1 : Int32)], (iq_sh l, I, J, X))) (fun _ => rfl) ?_
    cases h
    exact iq_G_ret (fun _ => rfl)
  · subst hb
    replace h := ir_smR h
    cases h
    rfl

