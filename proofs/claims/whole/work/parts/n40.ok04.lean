/-! ===== the abstract machine does the same (printed by wip/whole/emitall.py, split.py) ===== -/
set_option maxRecDepth 100000 in
theorem zP_lookBehind_l31_bok (l : Nat)  (x2 : Int32) (x3 : Int32) (I : iq_I) (J : iq_J) (X : iq_X) (x4 : Int32) (x5 : Int32)  {q : (Int32 × Int32) ⊕ (Int32)} (h : zP_lookBehind_l31_b x2 x3 I x4 x5 = some q) (r : iq_R × iq_M) (hc : ∀ v, q = .inl v → iq_Gg 1 55 (31, [some (.ref 63), none, some (.int x2), some (.int x3), some (.int v.1), some (.int v.2), none], [], (iq_sh l, I, J, X)) r) (hx : ∀ w, q = .inr w → iq_Gg 1 55 (80, [some (.ref 63), none, some (.int x2), some (.int x3), some (.int w), none, none], [], (iq_sh l, I, J, X)) r) : iq_Gg 1 55 (31, [some (.ref 63), none, some (.int x2), some (.int x3), some (.int x4), some (.int x5), none], [], (iq_sh l, I, J, X)) r := by
  unfold zP_lookBehind_l31_b at h
  refine iq_G_go (k := 2) (σ' := (35, [some (.ref 63), none, some (.int x2), some (.int x3), some (.int x4), some (.int x5), none], [.int (8 : Int32), .int x5], (iq_sh l, I, J, X))) (fun _ => rfl) ?_
  rcases iq_ite h with ⟨hc_, h⟩ | ⟨hc_, h⟩
  · refine iq_G_pos (c := (8 : Int32) ≤ x5) (σ1 := (80, [some (.ref 63), none, some (.int x2), some (.int x3), some (.int x4), some (.int x5), none], [], (iq_sh l, I, J, X))) (fun _ => rfl) hc_ ?_
    cases h
    exact iq_G_fg (L := [some (.ref 63), none, some (.int x2), some (.int x3), some (.int x4), none, none]) (And.intro rfl (And.intro rfl (And.intro rfl (And.intro rfl trivial)))) (hx x4 rfl)
  · refine iq_G_neg (c := (8 : Int32) ≤ x5) (σ1 := (38, [some (.ref 63), none, some (.int x2), some (.int x3), some (.int x4), some (.int x5), none], [], (iq_sh l, I, J, X))) (fun _ => rfl) hc_ ?_
    refine iq_G_go (k := 4) (σ' := (45, [some (.ref 63), none, some (.int x2), some (.int x3), some (.int x4), some (.int x5), none], [.int x5, .int x3, .ref 4], (iq_sh l, I, J, X))) (fun _ => rfl) ?_
    obtain ⟨q1, hq1, h⟩ := iq_bnd h
    refine iq_G_call (σ' := (48, [some (.ref 63), none, some (.int x2), some (.int x3), some (.int x4), some (.int x5), none], [.int q1], (iq_sh l, I, J, X))) (fun _ => rfl) (zU_leadsBy_4_ok l x3 x5 I J X hq1) rfl rfl ?_
    refine iq_G_go (k := 6) (σ' := (56, [some (.ref 63), none, some (.int x2), some (.int x3), some (.int x4), some (.int x5), some (.int q1)], [.int ((x2 >>> (x5 &&& 31)) &&& (1 : Int32))], (iq_sh l, I, J, X))) (fun _ => rfl) ?_
    rcases iq_ite h with ⟨hc_, h⟩ | ⟨hc_, h⟩
    · refine iq_G_pos (c := ((x2 >>> (x5 &&& 31)) &&& (1 : Int32)) = 0) (σ1 := (74, [some (.ref 63), none, some (.int x2), some (.int x3), some (.int x4), some (.int x5), some (.int q1)], [], (iq_sh l, I, J, X))) (fun _ => rfl) hc_ ?_
      refine iq_G_go (k := 2) (σ' := (31, [some (.ref 63), none, some (.int x2), some (.int x3), some (.int x4), some (.int (x5 + (1 : Int32))), some (.int q1)], [], (iq_sh l, I, J, X))) (fun _ => rfl) ?_
      cases h
      exact iq_G_fg (L := [some (.ref 63), none, some (.int x2), some (.int x3), some (.int x4), some (.int (x5 + (1 : Int32))), none]) (And.intro rfl (And.intro rfl (And.intro rfl (And.intro rfl (And.intro rfl trivial))))) (hc (x4, (x5 + (1 : Int32))) rfl)
    · refine iq_G_neg (c := ((x2 >>> (x5 &&& 31)) &&& (1 : Int32)) = 0) (σ1 := (59, [some (.ref 63), none, some (.int x2), some (.int x3), some (.int x4), some (.int x5), some (.int q1)], [], (iq_sh l, I, J, X))) (fun _ => rfl) hc_ ?_
      refine iq_G_go (k := 2) (σ' := (62, [some (.ref 63), none, some (.int x2), some (.int x3), some (.int x4), some (.int x5), some (.int q1)], [.int (-1 : Int32), .int q1], (iq_sh l, I, J, X))) (fun _ => rfl) ?_
      rcases iq_ite h with ⟨hc_, h⟩ | ⟨hc_, h⟩
      · refine iq_G_pos (c := q1 = (-1 : Int32)) (σ1 := (74, [some (.ref 63), none, some (.int x2), some (.int x3), some (.int x4), some (.int x5), some (.int q1)], [], (iq_sh l, I, J, X))) (fun _ => rfl) hc_ ?_
        refine iq_G_go (k := 2) (σ' := (31, [some (.ref 63), none, some (.int x2), some (.int x3), some (.int x4), some (.int (x5 + (1 : Int32))), some (.int q1)], [], (iq_sh l, I, J, X))) (fun _ => rfl) ?_
        cases h
        exact iq_G_fg (L := [some (.ref 63), none, some (.int x2), some (.int x3), some (.int x4), some (.int (x5 + (1 : Int32))), none]) (And.intro rfl (And.intro rfl (And.intro rfl (And.intro rfl (And.intro rfl trivial))))) (hc (x4, (x5 + (1 : Int32))) rfl)
      · refine iq_G_neg (c := q1 = (-1 : Int32)) (σ1 := (65, [some (.ref 63), none, some (.int x2), some (.int x3), some (.int x4), some (.int x5), some (.int q1)], [], (iq_sh l, I, J, X))) (fun _ => rfl) hc_ ?_
        refine iq_G_go (k := 8) (σ' := (31, [some (.ref 63), none, some (.int x2), some (.int x3), some (.int (x4 ||| ((1 : Int32) <<< (q1 &&& 31)))), some (.int (x5 + (1 : Int32))), some (.int q1)], [], (iq_sh l, I, J, X))) (fun _ => rfl) ?_
        cases h
        exact iq_G_fg (L := [some (.ref 63), none, some (.int x2), some (.int x3), some (.int (x4 ||| ((1 : Int32) <<< (q1 &&& 31)))), some (.int (x5 + (1 : Int32))), none]) (And.intro rfl (And.intro rfl (And.intro rfl (And.intro rfl (And.intro rfl trivial))))) (hc ((x4 ||| ((1 : Int32) <<< (q1 &&& 31))), (x5 + (1 : Int32))) rfl)
set_option maxRecDepth 100000 in
theorem zP_lookBehind_l31_ok (l : Nat)  (x2 : Int32) (x3 : Int32) (I : iq_I) (J : iq_J) (X : iq_X) {n : Nat} {v : Int32 × Int32} {w : Int32} (h : zP_lookBehind_l31 x2 x3 I n v = some w) (r : iq_R × iq_M) (hq : iq_Gg 1 55 (80, [some (.ref 63), none, some (.int x2), some (.int x3), some (.int w), none, none], [], (iq_sh l, I, J, X)) r) : iq_Gg 1 55 (31, [some (.ref 63), none, some (.int x2), some (.int x3), some (.int v.1), some (.int v.2), none], [], (iq_sh l, I, J, X)) r :=
  iq_lp_ok (σ := fun v => (31, [some (.ref 63), none, some (.int x2), some (.int x3), some (.int v.1), some (.int v.2), none], [], (iq_sh l, I, J, X))) (Q := fun w r => iq_Gg 1 55 (80, [some (.ref 63), none, some (.int x2), some (.int x3), some (.int w), none, none], [], (iq_sh l, I, J, X)) r) (fun v q hv r h1 h2 => zP_lookBehind_l31_bok l x2 x3 I J X v.1 v.2 hv r h1 h2) h r hq
set_option maxRecDepth 100000 in
theorem zP_lookBehind_l14_bok (l : Nat)  (x2 : Int32) (J : iq_J) (X : iq_X) (x3 : Int32) (I : iq_I) {q : (Int32 × iq_I) ⊕ (iq_I)} (h : zP_lookBehind_l14_b x2 x3 I = some q) (r : iq_R × iq_M) (hc : ∀ v, q = .inl v → iq_Gg 1 55 (14, [some (.ref 63), none, some (.int x2), some (.int v.1), none, none, none], [], (iq_sh l, v.2, J, X)) r) (hx : ∀ w, q = .inr w → iq_Gg 1 55 (94, [none, none, none, none, none, none, none], [], (iq_sh l, w, J, X)) r) : iq_Gg 1 55 (14, [some (.ref 63), none, some (.int x2), some (.int x3), none, none, none], [], (iq_sh l, I, J, X)) r := by
  unfold zP_lookBehind_l14_b at h
  refine iq_G_go (k := 4) (σ' := (22, [some (.ref 63), none, some (.int x2), some (.int x3), none, none, none], [.int (I 4 0), .int x3], (iq_sh l, I, J, X))) (fun _ => rfl) ?_
  rcases iq_ite h with ⟨hc_, h⟩ | ⟨hc_, h⟩
  · refine iq_G_pos (c := (I 4 0) ≤ x3) (σ1 := (94, [some (.ref 63), none, some (.int x2), some (.int x3), none, none, none], [], (iq_sh l, I, J, X))) (fun _ => rfl) hc_ ?_
    cases h
    exact iq_G_fg (L := [none, none, none, none, none, none, none]) trivial (hx I rfl)
  · refine iq_G_neg (c := (I 4 0) ≤ x3) (σ1 := (25, [some (.ref 63), none, some (.int x2), some (.int x3), none, none, none], [], (iq_sh l, I, J, X))) (fun _ => rfl) hc_ ?_
    refine iq_G_go (k := 4) (σ' := (31, [some (.ref 63), none, some (.int x2), some (.int x3), some (.int (0 : Int32)), some (.int (0 : Int32)), none], [], (iq_sh l, I, J, X))) (fun _ => rfl) ?_
    obtain ⟨w2, hw2, h⟩ := iq_bnd h
    refine iq_G_fg (L := [some (.ref 63), none, some (.int x2), some (.int x3), some (.int (0 : Int32)), some (.int (0 : Int32)), none]) (And.intro rfl (And.intro rfl (And.intro rfl (And.intro rfl (And.intro rfl trivial))))) ?_
    refine zP_lookBehind_l31_ok l x2 x3 I J X hw2 _ ?_
    show iq_Gg 1 55 (80, [some (.ref 63), none, some (.int x2), some (.int x3), some (.int w2), none, none], [], (iq_sh l, I, J, X)) _
    refine iq_G_go (k := 4) (σ' := (87, [some (.ref 63), none, some (.int x2), some (.int x3), some (.int w2), none, none], [.int w2, .int x3, .ref 64], (iq_sh l, I, J, X))) (fun _ => rfl) ?_
    obtain ⟨hc_, h⟩ := iq_itn h
    refine iq_G_pos (c := iq_in x3 10) (σ1 := (88, [some (.ref 63), none, some (.int x2), some (.int x3), some (.int w2), none, none], [], (iq_sh l, (iq_upI I 64 (Int32.toNatClampNeg x3) w2), J, X))) (fun _ => rfl) hc_ ?_
    obtain ⟨I3, eI3, h⟩ := ir_letG h
    rw [← eI3]
    clear eI3
    refine iq_G_go (k := 2) (σ' := (14, [some (.ref 63), none, some (.int x2), some (.int (x3 + (1 : Int32))), some (.int w2), none, none], [], (iq_sh l, I3, J, X))) (fun _ => rfl) ?_
    cases h
    exact iq_G_fg (L := [some (.ref 63), none, some (.int x2), some (.int (x3 + (1 : Int32))), none, none, none]) (And.intro rfl (And.intro rfl (And.intro rfl trivial))) (hc ((x3 + (1 : Int32)), I3) rfl)
set_option maxRecDepth 100000 in
theorem zP_lookBehind_l14_ok (l : Nat)  (x2 : Int32) (J : iq_J) (X : iq_X) {n : Nat} {v : Int32 × iq_I} {w : iq_I} (h : zP_lookBehind_l14 x2 n v = some w) (r : iq_R × iq_M) (hq : iq_Gg 1 55 (94, [none, none, none, none, none, none, none], [], (iq_sh l, w, J, X)) r) : iq_Gg 1 55 (14, [some (.ref 63), none, some (.int x2), some (.int v.1), none, none, none], [], (iq_sh l, v.2, J, X)) r :=
  iq_lp_ok (σ := fun v => (14, [some (.ref 63), none, some (.int x2), some (.int v.1), none, none, none], [], (iq_sh l, v.2, J, X))) (Q := fun w r => iq_Gg 1 55 (94, [none, none, none, none, none, none, none], [], (iq_sh l, w, J, X)) r) (fun v q hv r h1 h2 => zP_lookBehind_l14_bok l x2 J X v.1 v.2 hv r h1 h2) h r hq
set_option maxRecDepth 100000 in
theorem zP_lookBehind_ok (l : Nat)  (x1 : Int32) (I : iq_I) (J : iq_J) (X : iq_X) {q : iq_I} (h : zP_lookBehind x1 I = some q) : iq_Cc 2 55 [.ref 63, .int x1] (iq_sh l, I, J, X) (.inl none, (iq_sh l, q, J, X)) := by
  refine iq_Cc_of (L := [some (.ref 63), some (.int x1), none, none, none, none, none]) rfl rfl ?_
  unfold zP_lookBehind at h
  refine iq_G_go (k := 10) (σ' := (14, [some (.ref 63), some (.int x1), some (.int ((I 4 4) &&& (x1 ^^^ (-1 : Int32)))), some (.int (0 : Int32)), none, none, none], [], (iq_sh l, I, J, X))) (fun _ => rfl) ?_
  obtain ⟨w4, hw4, h⟩ := iq_bnd h
  refine iq_G_fg (L := [some (.ref 63), none, some (.int ((I 4 4) &&& (x1 ^^^ (-1 : Int32)))), some (.int (0 : Int32)), none, none, none]) (And.intro rfl (And.intro rfl (And.intro rfl trivial))) ?_
  refine zP_lookBehind_l14_ok l ((I 4 4) &&& (x1 ^^^ (-1 : Int32))) J X hw4 _ ?_
  show iq_Gg 1 55 (94, [none, none, none, none, none, none, none], [], (iq_sh l, w4, J, X)) _
  cases h
  exact iq_G_ret (fun _ => rfl)
set_option maxRecDepth 100000 in
theorem zP_allBehind_l4_bok (l : Nat)  (x1 : Int32) (I : iq_I) (J : iq_J) (X : iq_X) (x2 : Int32) (x3 : Int32)  {q : (Int32 × Int32) ⊕ (Int32)} (h : zP_allBehind_l4_b x1 I x2 x3 = some q) (r : iq_R × iq_M) (hc : ∀ v, q = .inl v → iq_Gg 0 56 (4, [some (.ref 63), some (.int x1), some (.int v.1), some (.int v.2)], [], (iq_sh l, I, J, X)) r) (hx : ∀ w, q = .inr w → iq_Gg 0 56 (38, [none, none, some (.int w), none], [], (iq_sh l, I, J, X)) r) : iq_Gg 0 56 (4, [some (.ref 63), some (.int x1), some (.int x2), some (.int x3)], [], (iq_sh l, I, J, X)) r := by
  unfold zP_allBehind_l4_b at h
  refine iq_G_go (k := 4) (σ' := (12, [some (.ref 63), some (.int x1), some (.int x2), some (.int x3)], [.int (I 4 0), .int x3], (iq_sh l, I, J, X))) (fun _ => rfl) ?_
  rcases iq_ite h with ⟨hc_, h⟩ | ⟨hc_, h⟩
  · refine iq_G_pos (c := (I 4 0) ≤ x3) (σ1 := (38, [some (.ref 63), some (.int x1), some (.int x2), some (.int x3)], [], (iq_sh l, I, J, X))) (fun _ => rfl) hc_ ?_
    cases h
    exact iq_G_fg (L := [none, none, some (.int x2), none]) (And.intro rfl trivial) (hx x2 rfl)
  · refine iq_G_neg (c := (I 4 0) ≤ x3) (σ1 := (15, [some (.ref 63), some (.int x1), some (.int x2), some (.int x3)], [], (iq_sh l, I, J, X))) (fun _ => rfl) hc_ ?_
    refine iq_G_go (k := 5) (σ' := (20, [some (.ref 63), some (.int x1), some (.int x2), some (.int x3)], [.int ((x1 >>> (x3 &&& 31)) &&& (1 : Int32))], (iq_sh l, I, J, X))) (fun _ => rfl) ?_
    rcases iq_ite h with ⟨hc_, h⟩ | ⟨hc_, h⟩
    · refine iq_G_pos (c := ((x1 >>> (x3 &&& 31)) &&& (1 : Int32)) = 0) (σ1 := (32, [some (.ref 63), some (.int x1), some (.int x2), some (.int x3)], [], (iq_sh l, I, J, X))) (fun _ => rfl) hc_ ?_
      refine iq_G_go (k := 2) (σ' := (4, [some (.ref 63), some (.int x1), some (.int x2), some (.int (x3 + (1 : Int32)))], [], (iq_sh l, I, J, X))) (fun _ => rfl) ?_
      cases h
      exact iq_G_fg (L := [some (.ref 63), some (.int x1), some (.int x2), some (.int (x3 + (1 : Int32)))]) (And.intro rfl (And.intro rfl (And.intro rfl (And.intro rfl trivial)))) (hc (x2, (x3 + (1 : Int32))) rfl)
    · refine iq_G_neg (c := ((x1 >>> (x3 &&& 31)) &&& (1 : Int32)) = 0) (σ1 := (23, [some (.ref 63), some (.int x1), some (.int x2), some (.int x3)], [], (iq_sh l, I, J, X))) (fun _ => rfl) hc_ ?_
      refine iq_G_go (k := 4) (σ' := (29, [some (.ref 63), some (.int x1), some (.int x2), some (.int x3)], [.int x3, .ref 64, .int x2], (iq_sh l, I, J, X))) (fun _ => rfl) ?_
      obtain ⟨hc_, h⟩ := iq_itn h
      refine iq_G_pos (c := iq_in x3 10) (σ1 := (30, [some (.ref 63), some (.int x1), some (.int x2), some (.int x3)], [.int (I 64 (Int32.toNatClampNeg x3)), .int x2], (iq_sh l, I, J, X))) (fun _ => rfl) hc_ ?_
      refine iq_G_go (k := 4) (σ' := (4, [some (.ref 63), some (.int x1), some (.int (x2 ||| (I 64 (Int32.toNatClampNeg x3)))), some (.int (x3 + (1 : Int32)))], [], (iq_sh l, I, J, X))) (fun _ => rfl) ?_
      cases h
      exact iq_G_fg (L := [some (.ref 63), some (.int x1), some (.int (x2 ||| (I 64 (Int32.toNatClampNeg x3)))), some (.int (x3 + (1 : Int32)))]) (And.intro rfl (And.intro rfl (And.intro rfl (And.intro rfl trivial)))) (hc ((x2 ||| (I 64 (Int32.toNatClampNeg x3))), (x3 + (1 : Int32))) rfl)
set_option maxRecDepth 100000 in
theorem zP_allBehind_l4_ok (l : Nat)  (x1 : Int32) (I : iq_I) (J : iq_J) (X : iq_X) {n : Nat} {v : Int32 × Int32} {w : Int32} (h : zP_allBehind_l4 x1 I n v = some w) (r : iq_R × iq_M) (hq : iq_Gg 0 56 (38, [none, none, some (.int w), none], [], (iq_sh l, I, J, X)) r) : iq_Gg 0 56 (4, [some (.ref 63), some (.int x1), some (.int v.1), some (.int v.2)], [], (iq_sh l, I, J, X)) r :=
  iq_lp_ok (σ := fun v => (4, [some (.ref 63), some (.int x1), some (.int v.1), some (.int v.2)], [], (iq_sh l, I, J, X))) (Q := fun w r => iq_Gg 0 56 (38, [none, none, some (.int w), none], [], (iq_sh l, I, J, X)) r) (fun v q hv r h1 h2 => zP_allBehind_l4_bok l x1 I J X v.1 v.2 hv r h1 h2) h r hq
set_option maxRecDepth 100000 in
theorem zP_allBehind_ok (l : Nat)  (x1 : Int32) (I : iq_I) (J : iq_J) (X : iq_X) {q : Int32} (h : zP_allBehind x1 I = some q) : iq_Cc 1 56 [.ref 63, .int x1] (iq_sh l, I, J, X) (.inl (some (.int q)), (iq_sh l, I, J, X)) := by
  refine iq_Cc_of (L := [some (.ref 63), some (.int x1), none, none]) rfl rfl ?_
  unfold zP_allBehind at h
  refine iq_G_go (k := 4) (σ' := (4, [some (.ref 63), some (.int x1), some (.int (0 : Int32)), some (.int (0 : Int32))], [], (iq_sh l, I, J, X))) (fun _ => rfl) ?_
  obtain ⟨w1, hw1, h⟩ := iq_bnd h
  refine iq_G_fg (L := [some (.ref 63), some (.int x1), some (.int (0 : Int32)), some (.int (0 : Int32))]) (And.intro rfl (And.intro rfl (And.intro rfl (And.intro rfl trivial)))) ?_
  refine zP_allBehind_l4_ok l x1 I J X hw1 _ ?_
  show iq_Gg 0 56 (38, [none, none, some (.int w1), none], [], (iq_sh l, I, J, X)) _
  refine iq_G_go (k := 1) (σ' := (39, [none, none, some (.int w1), none], [.int w1], (iq_sh l, I, J, X))) (fun _ => rfl) ?_
  cases h
  exact iq_G_ret (fun _ => rfl)
set_option maxRecDepth 100000 in
theorem zP_fewestWords_l12_bok (l : Nat)  (x2 : Int32) (I : iq_I) (J : iq_J) (X : iq_X) (x3 : Int32) (x4 : Int32)  {q : (Int32 × Int32) ⊕ ((Unit) ⊕ (Int32 × iq_I))} (h : zP_fewestWords_l12_b x2 I x3 x4 = some q) (r : iq_R × iq_M) (hc : ∀ v, q = .inl v → iq_Gg 2 82 (12, [some (.ref 63), none, some (.int x2), some (.int v.1), some (.int v.2)], [], (iq_sh l, I, J, X)) r) (hx : ∀ w, q = .inr w → (∀ a, w = .inl a → iq_Gg 2 82 (47, [none, none, none, none, none], [], (iq_sh l, I, J, X)) r) ∧ (∀ b, w = .inr b → r = (.inl (some (.int b.1)), (iq_sh l, b.2, J, X)))) : iq_Gg 2 82 (12, [some (.ref 63), none, some (.int x2), some (.int x3), some (.int x4)], [], (iq_sh l, I, J, X)) r := by
  unfold zP_fewestWords_l12_b at h
  refine iq_G_go (k := 4) (σ' := (21, [some (.ref 63), none, some (.int x2), some (.int x3), some (.int x4)], [.int (I 4 0), .int x4], (iq_sh l, I, J, X))) (fun _ => rfl) ?_
  rcases iq_ite h with ⟨hc_, h⟩ | ⟨hc_, h⟩
  · refine iq_G_pos (c := (I 4 0) ≤ x4) (σ1 := (47, [some (.ref 63), none, some (.int x2), some (.int x3), some (.int x4)], [], (iq_sh l, I, J, X))) (fun _ => rfl) hc_ ?_
    cases h
    exact iq_G_fg (L := [none, none, none, none, none]) trivial ((hx (.inl ()) rfl).1 () rfl)
  · refine iq_G_neg (c := (I 4 0) ≤ x4) (σ1 := (24, [some (.ref 63), none, some (.int x2), some (.int x3), some (.int x4)], [], (iq_sh l, I, J, X))) (fun _ => rfl) hc_ ?_
    refine iq_G_go (k := 5) (σ' := (29, [some (.ref 63), none, some (.int x2), some (.int x3), some (.int x4)], [.int ((x3 >>> (x2 &&& 31)) &&& (1 : Int32))], (iq_sh l, I, J, X))) (fun _ => rfl) ?_
    rcases iq_ite h with ⟨hc_, h⟩ | ⟨hc_, h⟩
    · refine iq_G_pos (c := ((x3 >>> (x2 &&& 31)) &&& (1 : Int32)) = 0) (σ1 := (35, [some (.ref 63), none, some (.int x2), some (.int x3), some (.int x4)], [], (iq_sh l, I, J, X))) (fun _ => rfl) hc_ ?_
      refine iq_G_go (k := 2) (σ' := (37, [some (.ref 63), none, some (.int x2), some (.int x3), some (.int x4)], [.int x3, .ref 63], (iq_sh l, I, J, X))) (fun _ => rfl) ?_
      obtain ⟨q2, hq2, h⟩ := iq_bnd h
      refine iq_G_call (σ' := (40, [some (.ref 63), none, some (.int x2), some (.int x3), some (.int x4)], [.int q2], (iq_sh l, I, J, X))) (fun _ => rfl) (zP_allBehind_ok l x3 I J X hq2) rfl rfl ?_
      refine iq_G_go (k := 3) (σ' := (12, [some (.ref 63), none, some (.int x2), some (.int q2), some (.int (x4 + (1 : Int32)))], [], (iq_sh l, I, J, X))) (fun _ => rfl) ?_
      cases h
      exact iq_G_fg (L := [some (.ref 63), none, some (.int x2), some (.int q2), some (.int (x4 + (1 : Int32)))]) (And.intro rfl (And.intro rfl (And.intro rfl (And.intro rfl trivial)))) (hc (q2, (x4 + (1 : Int32))) rfl)
    · refine iq_G_neg (c := ((x3 >>> (x2 &&& 31)) &&& (1 : Int32)) = 0) (σ1 := (32, [some (.ref 63), none, some (.int x2), some (.int x3), some (.int x4)], [], (iq_sh l, I, J, X))) (fun _ => rfl) hc_ ?_
      refine iq_G_go (k := 1) (σ' := (34, [some (.ref 63), none, some (.int x2), some (.int x3), some (.int x4)], [.int x4], (iq_sh l, I, J, X))) (fun _ => rfl) ?_
      cases h
      obtain rfl := (hx _ rfl).2 _ rfl
      exact iq_G_ret (fun _ => rfl)
set_option maxRecDepth 100000 in
theorem zP_fewestWords_l12_ok (l : Nat)  (x2 : Int32) (I : iq_I) (J : iq_J) (X : iq_X) {n : Nat} {v : Int32 × Int32} {w : (Unit) ⊕ (Int32 × iq_I)} (h : zP_fewestWords_l12 x2 I n v = some w) (r : iq_R × iq_M) (hq : (∀ a, w = .inl a → iq_Gg 2 82 (47, [none, none, none, none, none], [], (iq_sh l, I, J, X)) r) ∧ (∀ b, w = .inr b → r = (.inl (some (.int b.1)), (iq_sh l, b.2, J, X)))) : iq_Gg 2 82 (12, [some (.ref 63), none, some (.int x2), some (.int v.1), some (.int v.2)], [], (iq_sh l, I, J, X)) r :=
  iq_lp_ok (σ := fun v => (12, [some (.ref 63), none, some (.int x2), some (.int v.1), some (.int v.2)], [], (iq_sh l, I, J, X))) (Q := fun w r => (∀ a, w = .inl a → iq_Gg 2 82 (47, [none, none, none, none, none], [], (iq_sh l, I, J, X)) r) ∧ (∀ b, w = .inr b → r = (.inl (some (.int b.1)), (iq_sh l, b.2, J, X)))) (fun v q hv r h1 h2 => zP_fewestWords_l12_bok l x2 I J X v.1 v.2 hv r h1 h2) h r hq
set_option maxRecDepth 100000 in
theorem zP_fewestWords_ok (l : Nat)  (x1 : Int32) (x2 : Int32) (I : iq_I) (J : iq_J) (X : iq_X) {q : Int32 × iq_I} (h : zP_fewestWords x1 x2 I = some q) : iq_Cc 3 82 [.ref 63, .int x1, .int x2] (iq_sh l, I, J, X) (.inl (some (.int q.1)), (iq_sh l, q.2, J, X)) := by
  refine iq_Cc_of (L := [some (.ref 63), some (.int x1), some (.int x2), none, none]) rfl rfl ?_
  unfold zP_fewestWords at h
  refine iq_G_go (k := 2) (σ' := (2, [some (.ref 63), some (.int x1), some (.int x2), none, none], [.int (0 : Int32), .ref 63], (iq_sh l, I, J, X))) (fun _ => rfl) ?_
  obtain ⟨q1, hq1, h⟩ := iq_bnd h
  refine iq_G_call (σ' := (5, [some (.ref 63), some (.int x1), some (.int x2), none, none], [], (iq_sh l, q1, J, X))) (fun _ => rfl) (zP_lookBehind_ok l (0 : Int32) I J X hq1) rfl rfl ?_
  refine iq_G_go (k := 6) (σ' := (12, [some (.ref 63), some (.int x1), some (.int x2), some (.int ((1 : Int32) <<< (x1 &&& 31))), some (.int (0 : Int32))], [], (iq_sh l, q1, J, X))) (fun _ => rfl) ?_
  obtain ⟨w3, hw3, h⟩ := iq_bnd h
  refine iq_G_fg (L := [some (.ref 63), none, some (.int x2), some (.int ((1 : Int32) <<< (x1 &&& 31))), some (.int (0 : Int32))]) (And.intro rfl (And.intro rfl (And.intro rfl (And.intro rfl trivial)))) ?_
  refine zP_fewestWords_l12_ok l x2 q1 J X hw3 _ ⟨fun a4 ha => ?_, fun b5 hb => ?_⟩
  · subst ha
    replace h := ir_smL h
    show iq_Gg 2 82 (47, [none, none, none, none, none], [], (iq_sh l, q1, J, X)) _
    refine iq_G_go (k := 1) (σ' := (48, [none, none, none, none, none], [.int (-1 : Int32)], (iq_sh l, q1, J, X))) (fun _ => rfl) ?_
    cases h
    exact iq_G_ret (fun _ => rfl)
  · subst hb
    replace h := ir_smR h
    cases h
    rfl
set_option maxRecDepth 100000 in
theorem zO_far_ok (l : Nat)  (x1 : Int32) (x2 : Int32) (I : iq_I) (J : iq_J) (X : iq_X) {q : (Int32 ⊕ Nat) × iq_I × iq_X} (h : zO_far x1 x2 I X = some q) : iq_Cc 4 181 [.ref 1, .int x1, .int x2] (iq_sh l, I, J, X) ((ir_Ri q.1), (iq_sh l, q.2.1, J, q.2.2)) := by
  refine iq_Cc_of (L := [some (.ref 1), some (.int x1), some (.int x2)]) rfl rfl ?_
  unfold zO_far at h
  refine iq_G_go (k := 2) (σ' := (2, [some (.ref 1), some (.int x1), some (.int x2)], [.int x1, .ref 1], (iq_sh l, I, J, X))) (fun _ => rfl) ?_
  obtain ⟨q1, hq1, h⟩ := iq_bnd h
  have hC := (zO_needState_ok l x1 I J X hq1)
  rcases iq_smc h with ⟨a2, ha, h⟩ | ⟨k3, ha, h⟩
  · rw [ha] at hC
    refine iq_G_call (σ' := (5, [some (.ref 1), some (.int x1), some (.int x2)], [], (iq_sh l, I, J, q1.2))) (fun _ => rfl) hC rfl rfl ?_
    refine iq_G_go (k := 2) (σ' := (7, [some (.ref 1), some (.int x1), some (.int x2)], [.int x2, .ref 1], (iq_sh l, I, J, q1.2))) (fun _ => rfl) ?_
    obtain ⟨q4, hq4, h⟩ := iq_bnd h
    have hC := (zO_needState_ok l x2 I J q1.2 hq4)
    rcases iq_smc h with ⟨a5, ha, h⟩ | ⟨k6, ha, h⟩
    · rw [ha] at hC
      refine iq_G_call (σ' := (10, [some (.ref 1), some (.int x1), some (.int x2)], [], (iq_sh l, I, J, q4.2))) (fun _ => rfl) hC rfl rfl ?_
      refine iq_G_go (k := 4) (σ' := (16, [some (.ref 1), some (.int x1), some (.int x2)], [.int x2, .int x1, .ref 63], (iq_sh l, I, J, q4.2))) (fun _ => rfl) ?_
      obtain ⟨q7, hq7, h⟩ := iq_bnd h
      refine iq_G_call (σ' := (19, [some (.ref 1), some (.int x1), some (.int x2)], [.int q7.1], (iq_sh l, q7.2, J, q4.2))) (fun _ => rfl) (zP_fewestWords_ok l x1 x2 I J q4.2 hq7) rfl rfl ?_
      cases h
      exact iq_G_ret (fun _ => rfl)
    · rw [ha] at hC
      cases h
      exact iq_G_callx (fun _ => rfl) hC rfl rfl
  · rw [ha] at hC
    cases h
    exact iq_G_callx (fun _ => rfl) hC rfl rfl
set_option maxRecDepth 100000 in
theorem zL_far_ok (l : Nat)  (x1 : Int32) (x2 : Int32) (I : iq_I) (J : iq_J) (X : iq_X) {q : Int32 × iq_I × iq_J × iq_X} (h : zL_far x1 x2 I J X = some q) : iq_Cc 5 350 [.ref 1, .int x1, .int x2, .ref 114] (iq_sh l, I, J, X) (.inl (some (.int q.1)), (iq_sh l, q.2.1, q.2.2.1, q.2.2.2)) := by
  refine iq_Cc_of (L := [some (.ref 1), some (.int x1), some (.int x2), some (.ref 114), none]) rfl rfl ?_
  unfold zL_far at h
  refine iq_G_go (k := 5) (σ' := (5, [some (.ref 1), some (.int x1), some (.int x2), some (.ref 114), none], [.int x2, .int x1, .ref 1, .int (0 : Int32), .ref 114], (iq_sh l, I, J, X))) (fun _ => rfl) ?_
  obtain ⟨q1, hq1, h⟩ := iq_bnd h
  have hC := (zO_far_ok l x1 x2 I J X hq1)
  rcases iq_smc h with ⟨a2, ha, h⟩ | ⟨k3, ha, h⟩
  · rw [ha] at hC
    refine iq_G_call (σ' := (8, [some (.ref 1), some (.int x1), some (.int x2), some (.ref 114), none], [.int a2, .int (0 : Int32), .ref 114], (iq_sh l, q1.2.1, J, q1.2.2))) (fun _ => rfl) hC rfl rfl ?_
    refine iq_G_go (k := 1) (σ' := (9, [some (.ref 1), some (.int x1), some (.int x2), some (.ref 114), none], [.long (Int32.toInt64 a2), .int (0 : Int32), .ref 114], (iq_sh l, q1.2.1, J, q1.2.2))) (fun _ => rfl) ?_
    refine iq_G_go (k := 1) (σ' := (10, [some (.ref 1), some (.int x1), some (.int x2), some (.ref 114), none], [], (iq_sh l, q1.2.1, (iq_upJ J 114 0 (Int32.toInt64 a2)), q1.2.2))) (fun _ => rfl) ?_
    obtain ⟨J4, eJ4, h⟩ := ir_letG h
    rw [← eJ4]
    clear eJ4
    refine iq_G_go (k := 2) (σ' := (18, [some (.ref 1), some (.int x1), some (.int x2), some (.ref 114), none], [.int (0 : Int32)], (iq_sh l, q1.2.1, J4, q1.2.2))) (fun _ => rfl) ?_
    cases h
    exact iq_G_ret (fun _ => rfl)
  · rw [ha] at hC
    rcases iq_ite h with ⟨e, h⟩ | ⟨_, h⟩
    · subst e
      refine iq_G_call (σ' := (15, [some (.ref 1), some (.int x1), some (.int x2), some (.ref 114), none], [], (iq_sh l, q1.2.1, J, q1.2.2))) (fun _ => rfl) hC rfl rfl ?_
      refine iq_G_go (k := 1) (σ' := (16, [some (.ref 1), some (.int x1), some (.int x2), some (.ref 114), none], [.int (1 : Int32)], (iq_sh l, q1.2.1, J, q1.2.2))) (fun _ => rfl) ?_
      cases h
      exact iq_G_ret (fun _ => rfl)
    · obtain ⟨e, h⟩ := iq_itn h
      cases h
set_option maxRecDepth 100000 in
theorem zM_isState_18_ok (l : Nat)  (s1 : Int32) (I : iq_I) (J : iq_J) (X : iq_X)  {q : Int32 × iq_I} (h : zM_isState_18 s1 I = some q)  : iq_Gg 1 250 (18, [none, none], [.int s1, .ref 76], (iq_sh l, I, J, X)) (.inl (some (.int q.1)), (iq_sh l, q.2, J, X)) := by
  unfold zM_isState_18 at h
  refine iq_G_go (k := 1) (σ' := (19, [none, none], [.int (1 : Int32), .int s1, .ref 76], (iq_sh l, I, J, X))) (fun _ => rfl) ?_
  obtain ⟨q1, hq1, h⟩ := iq_bnd h
  refine iq_G_call (σ' := (22, [none, none], [.int q1.1], (iq_sh l, q1.2, J, X))) (fun _ => rfl) (zM_right_ok l s1 (1 : Int32) I J X hq1) rfl rfl ?_
  obtain ⟨hc_, h⟩ := iq_itn h
  have h := Option.some.inj h
  subst h
  exact iq_G_rif (c := q1.1 = 0 ∨ q1.1 = 1) (fun _ => rfl) hc_
set_option maxRecDepth 100000 in
theorem zM_isState_17_ok (l : Nat)   (I : iq_I) (J : iq_J) (X : iq_X)  {q : Int32 × iq_I} (h : zM_isState_17 I = some q)  : iq_Gg 1 250 (17, [none, none], [.ref 76], (iq_sh l, I, J, X)) (.inl (some (.int q.1)), (iq_sh l, q.2, J, X)) := by
  unfold zM_isState_17 at h
  refine iq_G_go (k := 1) (σ' := (18, [none, none], [.int (0 : Int32), .ref 76], (iq_sh l, I, J, X))) (fun _ => rfl) ?_
  exact iq_G_fg (L := [none, none]) trivial (zM_isState_18_ok l (0 : Int32) I J X  h )
set_option maxRecDepth 100000 in
theorem zM_isState_ok (l : Nat)  (x1 : Int32) (I : iq_I) (J : iq_J) (X : iq_X) {q : Int32 × iq_I} (h : zM_isState x1 I = some q) : iq_Cc 2 250 [.ref 76, .int x1] (iq_sh l, I, J, X) (.inl (some (.int q.1)), (iq_sh l, q.2, J, X)) := by
  refine iq_Cc_of (L := [some (.ref 76), some (.int x1)]) rfl rfl ?_
  unfold zM_isState at h
  refine iq_G_go (k := 2) (σ' := (2, [some (.ref 76), some (.int x1)], [.int x1, .ref 76], (iq_sh l, I, J, X))) (fun _ => rfl) ?_
  rcases iq_ite h with ⟨hc_, h⟩ | ⟨hc_, h⟩
  · refine iq_G_pos (c := x1 < 0) (σ1 := (17, [some (.ref 76), some (.int x1)], [.ref 76], (iq_sh l, I, J, X))) (fun _ => rfl) hc_ ?_
    exact iq_G_fg (L := [none, none]) trivial (zM_isState_17_ok l I J X  h )
  · refine iq_G_neg (c := x1 < 0) (σ1 := (5, [some (.ref 76), some (.int x1)], [.ref 76], (iq_sh l, I, J, X))) (fun _ => rfl) hc_ ?_
    refine iq_G_go (k := 3) (σ' := (10, [some (.ref 76), some (.int x1)], [.int (I 76 1), .int x1, .ref 76], (iq_sh l, I, J, X))) (fun _ => rfl) ?_
    rcases iq_ite h with ⟨hc_, h⟩ | ⟨hc_, h⟩
    · refine iq_G_pos (c := (I 76 1) ≤ x1) (σ1 := (17, [some (.ref 76), some (.int x1)], [.ref 76], (iq_sh l, I, J, X))) (fun _ => rfl) hc_ ?_
      exact iq_G_fg (L := [none, none]) trivial (zM_isState_17_ok l I J X  h )
    · refine iq_G_neg (c := (I 76 1) ≤ x1) (σ1 := (13, [some (.ref 76), some (.int x1)], [.ref 76], (iq_sh l, I, J, X))) (fun _ => rfl) hc_ ?_
      refine iq_G_go (k := 2) (σ' := (18, [some (.ref 76), some (.int x1)], [.int (1 : Int32), .ref 76], (iq_sh l, I, J, X))) (fun _ => rfl) ?_
      exact iq_G_fg (L := [none, none]) trivial (zM_isState_18_ok l (1 : Int32) I J X  h )
set_option maxRecDepth 100000 in
theorem zM_isArc_ok (l : Nat)  (x1 : Int32) (x2 : Int32) (I : iq_I) (J : iq_J) (X : iq_X) {q : Int32} (h : zM_isArc x1 x2 I = some q) : iq_Cc 2 270 [.ref 76, .int x1, .int x2] (iq_sh l, I, J, X) (.inl (some (.int q)), (iq_sh l, I, J, X)) := by
  refine iq_Cc_of (L := [some (.ref 76), some (.int x1), some (.int x2)]) rfl rfl ?_
  unfold zM_isArc at h
  refine iq_G_go (k := 3) (σ' := (3, [some (.ref 76), some (.int x1), some (.int x2)], [.int x2, .int x1, .ref 76], (iq_sh l, I, J, X))) (fun _ => rfl) ?_
  obtain ⟨q1, hq1, h⟩ := iq_bnd h
  refine iq_G_call (σ' := (6, [some (.ref 76), some (.int x1), some (.int x2)], [.int q1], (iq_sh l, I, J, X))) (fun _ => rfl) (zM_leads_ok l x1 x2 I J X hq1) rfl rfl ?_
  refine iq_G_go (k := 1) (σ' := (7, [some (.ref 76), some (.int x1), some (.int x2)], [.int (-1 : Int32), .int q1], (iq_sh l, I, J, X))) (fun _ => rfl) ?_
  rcases iq_ite h with ⟨hc_, h⟩ | ⟨hc_, h⟩
  · refine iq_G_pos (c := q1 = (-1 : Int32)) (σ1 := (30, [some (.ref 76), some (.int x1), some (.int x2)], [], (iq_sh l, I, J, X))) (fun _ => rfl) hc_ ?_
    refine iq_G_go (k := 1) (σ' := (31, [some (.ref 76), some (.int x1), some (.int x2)], [.int (0 : Int32)], (iq_sh l, I, J, X))) (fun _ => rfl) ?_
    cases h
    exact iq_G_ret (fun _ => rfl)
  · refine iq_G_neg (c := q1 = (-1 : Int32)) (σ1 := (10, [some (.ref 76), some (.int x1), some (.int x2)], [], (iq_sh l, I, J, X))) (fun _ => rfl) hc_ ?_
    refine iq_G_go (k := 5) (σ' := (19, [some (.ref 76), some (.int x1), some (.int x2)], [.int x2, .ref 79, .int (I 76 57)], (iq_sh l, I, J, X))) (fun _ => rfl) ?_
    obtain ⟨hc_, h⟩ := iq_itn h
    refine iq_G_pos (c := iq_in x2 14) (σ1 := (20, [some (.ref 76), some (.int x1), some (.int x2)], [.int (I 79 (Int32.toNatClampNeg x2)), .int (I 76 57)], (iq_sh l, I, J, X))) (fun _ => rfl) hc_ ?_
    refine iq_G_go (k := 3) (σ' := (23, [some (.ref 76), some (.int x1), some (.int x2)], [.int (((I 76 57) >>> ((I 79 (Int32.toNatClampNeg x2)) &&& 31)) &&& (1 : Int32))], (iq_sh l, I, J, X))) (fun _ => rfl) ?_
    rcases iq_ite h with ⟨hc_, h⟩ | ⟨hc_, h⟩
    · refine iq_G_pos (c := ¬ (((I 76 57) >>> ((I 79 (Int32.toNatClampNeg x2)) &&& 31)) &&& (1 : Int32)) = 0) (σ1 := (30, [some (.ref 76), some (.int x1), some (.int x2)], [], (iq_sh l, I, J, X))) (fun _ => rfl) hc_ ?_
      refine iq_G_go (k := 1) (σ' := (31, [some (.ref 76), some (.int x1), some (.int x2)], [.int (0 : Int32)], (iq_sh l, I, J, X))) (fun _ => rfl) ?_
      cases h
      exact iq_G_ret (fun _ => rfl)
    · refine iq_G_neg (c := ¬ (((I 76 57) >>> ((I 79 (Int32.toNatClampNeg x2)) &&& 31)) &&& (1 : Int32)) = 0) (σ1 := (26, [some (.ref 76), some (.int x1), some (.int x2)], [], (iq_sh l, I, J, X))) (fun _ => rfl) hc_ ?_
      refine iq_G_go (k := 2) (σ' := (31, [some (.ref 76), some (.int x1), some (.int x2)], [.int (1 : Int32)], (iq_sh l, I, J, X))) (fun _ => rfl) ?_
      cases h
      exact iq_G_ret (fun _ => rfl)
set_option maxRecDepth 100000 in
theorem zM_onward_l15_bok (l : Nat)  (x1 : Int32) (x3 : Int32) (I : iq_I) (J : iq_J) (X : iq_X) (x2 : Int32) (x4 : Int32)  {q : (Int32 × Int32) ⊕ (Int32)} (h : zM_onward_l15_b x1 x3 I x2 x4 = some q) (r : iq_R × iq_M) (hc : ∀ v, q = .inl v → iq_Gg 2 271 (15, [some (.ref 76), some (.int x1), some (.int v.1), some (.int x3), some (.int v.2)], [], (iq_sh l, I, J, X)) r) (hx : ∀ w, q = .inr w → iq_Gg 2 271 (61, [some (.ref 76), some (.int x1), some (.int w), some (.int x3), none], [], (iq_sh l, I, J, X)) r) : iq_Gg 2 271 (15, [some (.ref 76), some (.int x1), some (.int x2), some (.int x3), some (.int x4)], [], (iq_sh l, I, J, X)) r := by
  unfold zM_onward_l15_b at h
  refine iq_G_go (k := 3) (σ' := (21, [some (.ref 76), some (.int x1), some (.int x2), some (.int x3), some (.int x4)], [.int (I 76 2), .int x4], (iq_sh l, I, J, X))) (fun _ => rfl) ?_
  rcases iq_ite h with ⟨hc_, h⟩ | ⟨hc_, h⟩
  · refine iq_G_pos (c := (I 76 2) ≤ x4) (σ1 := (61, [some (.ref 76), some (.int x1), some (.int x2), some (.int x3), some (.int x4)], [], (iq_sh l, I, J, X))) (fun _ => rfl) hc_ ?_
    cases h
    exact iq_G_fg (L := [some (.ref 76), some (.int x1), some (.int x2), some (.int x3), none]) (And.intro rfl (And.intro rfl (And.intro rfl (And.intro rfl trivial)))) (hx x2 rfl)
  · refine iq_G_neg (c := (I 76 2) ≤ x4) (σ1 := (24, [some (.ref 76), some (.int x1), some (.int x2), some (.int x3), some (.int x4)], [], (iq_sh l, I, J, X))) (fun _ => rfl) hc_ ?_
    refine iq_G_go (k := 6) (σ' := (30, [some (.ref 76), some (.int x1), some (.int x2), some (.int x3), some (.int x4)], [.int (1 : Int32), .int ((x1 >>> (x3 &&& 31)) &&& (1 : Int32))], (iq_sh l, I, J, X))) (fun _ => rfl) ?_
    rcases iq_ite h with ⟨hc_, h⟩ | ⟨hc_, h⟩
    · refine iq_G_pos (c := ¬ ((x1 >>> (x3 &&& 31)) &&& (1 : Int32)) = (1 : Int32)) (σ1 := (55, [some (.ref 76), some (.int x1), some (.int x2), some (.int x3), some (.int x4)], [], (iq_sh l, I, J, X))) (fun _ => rfl) hc_ ?_
      refine iq_G_go (k := 2) (σ' := (15, [some (.ref 76), some (.int x1), some (.int x2), some (.int x3), some (.int (x4 + (1 : Int32)))], [], (iq_sh l, I, J, X))) (fun _ => rfl) ?_
      cases h
      exact iq_G_fg (L := [some (.ref 76), some (.int x1), some (.int x2), some (.int x3), some (.int (x4 + (1 : Int32)))]) (And.intro rfl (And.intro rfl (And.intro rfl (And.intro rfl (And.intro rfl trivial))))) (hc (x2, (x4 + (1 : Int32))) rfl)
    · refine iq_G_neg (c := ¬ ((x1 >>> (x3 &&& 31)) &&& (1 : Int32)) = (1 : Int32)) (σ1 := (33, [some (.ref 76), some (.int x1), some (.int x2), some (.int x3), some (.int x4)], [], (iq_sh l, I, J, X))) (fun _ => rfl) hc_ ?_
      refine iq_G_go (k := 3) (σ' := (37, [some (.ref 76), some (.int x1), some (.int x2), some (.int x3), some (.int x4)], [.int x4, .int x3, .ref 76], (iq_sh l, I, J, X))) (fun _ => rfl) ?_
      obtain ⟨q1, hq1, h⟩ := iq_bnd h
      refine iq_G_call (σ' := (40, [some (.ref 76), some (.int x1), some (.int x2), some (.int x3), some (.int x4)], [.int q1], (iq_sh l, I, J, X))) (fun _ => rfl) (zM_isArc_ok l x3 x4 I J X hq1) rfl rfl ?_
      rcases iq_ite h with ⟨hc_, h⟩ | ⟨hc_, h⟩
      · refine iq_G_pos (c := q1 = 0) (σ1 := (55, [some (.ref 76), some (.int x1), some (.int x2), some (.int x3), some (.int x4)], [], (iq_sh l, I, J, X))) (fun _ => rfl) hc_ ?_
        refine iq_G_go (k := 2) (σ' := (15, [some (.ref 76), some (.int x1), some (.int x2), some (.int x3), some (.int (x4 + (1 : Int32)))], [], (iq_sh l, I, J, X))) (fun _ => rfl) ?_
        cases h
        exact iq_G_fg (L := [some (.ref 76), some (.int x1), some (.int x2), some (.int x3), some (.int (x4 + (1 : Int32)))]) (And.intro rfl (And.intro rfl (And.intro rfl (And.intro rfl (And.intro rfl trivial))))) (hc (x2, (x4 + (1 : Int32))) rfl)
      · refine iq_G_neg (c := q1 = 0) (σ1 := (43, [some (.ref 76), some (.int x1), some (.int x2), some (.int x3), some (.int x4)], [], (iq_sh l, I, J, X))) (fun _ => rfl) hc_ ?_
        refine iq_G_go (k := 5) (σ' := (49, [some (.ref 76), some (.int x1), some (.int x2), some (.int x3), some (.int x4)], [.int x4, .int x3, .ref 76, .int (1 : Int32), .int x2], (iq_sh l, I, J, X))) (fun _ => rfl) ?_
        obtain ⟨q2, hq2, h⟩ := iq_bnd h
        refine iq_G_call (σ' := (52, [some (.ref 76), some (.int x1), some (.int x2), some (.int x3), some (.int x4)], [.int q2, .int (1 : Int32), .int x2], (iq_sh l, I, J, X))) (fun _ => rfl) (zM_leads_ok l x3 x4 I J X hq2) rfl rfl ?_
        refine iq_G_go (k := 5) (σ' := (15, [some (.ref 76), some (.int x1), some (.int (x2 ||| ((1 : Int32) <<< (q2 &&& 31)))), some (.int x3), some (.int (x4 + (1 : Int32)))], [], (iq_sh l, I, J, X))) (fun _ => rfl) ?_
        cases h
        exact iq_G_fg (L := [some (.ref 76), some (.int x1), some (.int (x2 ||| ((1 : Int32) <<< (q2 &&& 31)))), some (.int x3), some (.int (x4 + (1 : Int32)))]) (And.intro rfl (And.intro rfl (And.intro rfl (And.intro rfl (And.intro rfl trivial))))) (hc ((x2 ||| ((1 : Int32) <<< (q2 &&& 31))), (x4 + (1 : Int32))) rfl)
set_option maxRecDepth 100000 in
theorem zM_onward_l15_ok (l : Nat)  (x1 : Int32) (x3 : Int32) (I : iq_I) (J : iq_J) (X : iq_X) {n : Nat} {v : Int32 × Int32} {w : Int32} (h : zM_onward_l15 x1 x3 I n v = some w) (r : iq_R × iq_M) (hq : iq_Gg 2 271 (61, [some (.ref 76), some (.int x1), some (.int w), some (.int x3), none], [], (iq_sh l, I, J, X)) r) : iq_Gg 2 271 (15, [some (.ref 76), some (.int x1), some (.int v.1), some (.int x3), some (.int v.2)], [], (iq_sh l, I, J, X)) r :=
  iq_lp_ok (σ := fun v => (15, [some (.ref 76), some (.int x1), some (.int v.1), some (.int x3), some (.int v.2)], [], (iq_sh l, I, J, X))) (Q := fun w r => iq_Gg 2 271 (61, [some (.ref 76), some (.int x1), some (.int w), some (.int x3), none], [], (iq_sh l, I, J, X)) r) (fun v q hv r h1 h2 => zM_onward_l15_bok l x1 x3 I J X v.1 v.2 hv r h1 h2) h r hq
set_option maxRecDepth 100000 in
theorem zM_onward_l4_bok (l : Nat)  (x1 : Int32) (I : iq_I) (J : iq_J) (X : iq_X) (x2 : Int32) (x3 : Int32)  {q : (Int32 × Int32) ⊕ (Int32)} (h : zM_onward_l4_b x1 I x2 x3 = some q) (r : iq_R × iq_M) (hc : ∀ v, q = .inl v → iq_Gg 2 271 (4, [some (.ref 76), some (.int x1), some (.int v.1), some (.int v.2), none], [], (iq_sh l, I, J, X)) r) (hx : ∀ w, q = .inr w → iq_Gg 2 271 (67, [none, none, some (.int w), none, none], [], (iq_sh l, I, J, X)) r) : iq_Gg 2 271 (4, [some (.ref 76), some (.int x1), some (.int x2), some (.int x3), none], [], (iq_sh l, I, J, X)) r := by
  unfold zM_onward_l4_b at h
  refine iq_G_go (k := 3) (σ' := (9, [some (.ref 76), some (.int x1), some (.int x2), some (.int x3), none], [.int (I 76 1), .int x3], (iq_sh l, I, J, X))) (fun _ => rfl) ?_
  rcases iq_ite h with ⟨hc_, h⟩ | ⟨hc_, h⟩
  · refine iq_G_pos (c := (I 76 1) ≤ x3) (σ1 := (67, [some (.ref 76), some (.int x1), some (.int x2), some (.int x3), none], [], (iq_sh l, I, J, X))) (fun _ => rfl) hc_ ?_
    cases h
    exact iq_G_fg (L := [none, none, some (.int x2), none, none]) (And.intro rfl trivial) (hx x2 rfl)
  · refine iq_G_neg (c := (I 76 1) ≤ x3) (σ1 := (12, [some (.ref 76), some (.int x1), some (.int x2), some (.int x3), none], [], (iq_sh l, I, J, X))) (fun _ => rfl) hc_ ?_
    refine iq_G_go (k := 2) (σ' := (15, [some (.ref 76), some (.int x1), some (.int x2), some (.int x3), some (.int (0 : Int32))], [], (iq_sh l, I, J, X))) (fun _ => rfl) ?_
    obtain ⟨w3, hw3, h⟩ := iq_bnd h
    refine iq_G_fg (L := [some (.ref 76), some (.int x1), some (.int x2), some (.int x3), some (.int (0 : Int32))]) (And.intro rfl (And.intro rfl (And.intro rfl (And.intro rfl (And.intro rfl trivial))))) ?_
    refine zM_onward_l15_ok l x1 x3 I J X hw3 _ ?_
    show iq_Gg 2 271 (61, [some (.ref 76), some (.int x1), some (.int w3), some (.int x3), none], [], (iq_sh l, I, J, X)) _
    refine iq_G_go (k := 2) (σ' := (4, [some (.ref 76), some (.int x1), some (.int w3), some (.int (x3 + (1 : Int32))), none], [], (iq_sh l, I, J, X))) (fun _ => rfl) ?_
    cases h
    exact iq_G_fg (L := [some (.ref 76), some (.int x1), some (.int w3), some (.int (x3 + (1 : Int32))), none]) (And.intro rfl (And.intro rfl (And.intro rfl (And.intro rfl trivial)))) (hc (w3, (x3 + (1 : Int32))) rfl)
set_option maxRecDepth 100000 in
theorem zM_onward_l4_ok (l : Nat)  (x1 : Int32) (I : iq_I) (J : iq_J) (X : iq_X) {n : Nat} {v : Int32 × Int32} {w : Int32} (h : zM_onward_l4 x1 I n v = some w) (r : iq_R × iq_M) (hq : iq_Gg 2 271 (67, [none, none, some (.int w), none, none], [], (iq_sh l, I, J, X)) r) : iq_Gg 2 271 (4, [some (.ref 76), some (.int x1), some (.int v.1), some (.int v.2), none], [], (iq_sh l, I, J, X)) r :=
  iq_lp_ok (σ := fun v => (4, [some (.ref 76), some (.int x1), some (.int v.1), some (.int v.2), none], [], (iq_sh l, I, J, X))) (Q := fun w r => iq_Gg 2 271 (67, [none, none, some (.int w), none, none], [], (iq_sh l, I, J, X)) r) (fun v q hv r h1 h2 => zM_onward_l4_bok l x1 I J X v.1 v.2 hv r h1 h2) h r hq
set_option maxRecDepth 100000 in
theorem zM_onward_ok (l : Nat)  (x1 : Int32) (I : iq_I) (J : iq_J) (X : iq_X) {q : Int32} (h : zM_onward x1 I = some q) : iq_Cc 3 271 [.ref 76, .int x1] (iq_sh l, I, J, X) (.inl (some (.int q)), (iq_sh l, I, J, X)) := by
  refine iq_Cc_of (L := [some (.ref 76), some (.int x1), none, none, none]) rfl rfl ?_
  unfold zM_onward at h
  refine iq_G_go (k := 4) (σ' := (4, [some (.ref 76), some (.int x1), some (.int (0 : Int32)), some (.int (0 : Int32)), none], [], (iq_sh l, I, J, X))) (fun _ => rfl) ?_
  obtain ⟨w4, hw4, h⟩ := iq_bnd h
  refine iq_G_fg (L := [some (.ref 76), some (.int x1), some (.int (0 : Int32)), some (.int (0 : Int32)), none]) (And.intro rfl (And.intro rfl (And.intro rfl (And.intro rfl trivial)))) ?_
  refine zM_onward_l4_ok l x1 I J X hw4 _ ?_
  show iq_Gg 2 271 (67, [none, none, some (.int w4), none, none], [], (iq_sh l, I, J, X)) _
  refine iq_G_go (k := 1) (σ' := (68, [none, none, some (.int w4), none, none], [.int w4], (iq_sh l, I, J, X))) (fun _ => rfl) ?_
  cases h
  exact iq_G_ret (fun _ => rfl)
set_option maxRecDepth 100000 in
theorem zM_far_l30_bok (l : Nat)  (x2 : Int32) (I : iq_I) (J : iq_J) (X : iq_X) (x3 : Int32) (x4 : Int32)  {q : (Int32 × Int32) ⊕ ((Unit) ⊕ (Int32 × iq_I))} (h : zM_far_l30_b x2 I x3 x4 = some q) (r : iq_R × iq_M) (hc : ∀ v, q = .inl v → iq_Gg 3 299 (30, [some (.ref 76), none, some (.int x2), some (.int v.1), some (.int v.2)], [], (iq_sh l, I, J, X)) r) (hx : ∀ w, q = .inr w → (∀ a, w = .inl a → iq_Gg 3 299 (65, [none, none, none, none, none], [], (iq_sh l, I, J, X)) r) ∧ (∀ b, w = .inr b → r = (.inl (some (.int b.1)), (iq_sh l, b.2, J, X)))) : iq_Gg 3 299 (30, [some (.ref 76), none, some (.int x2), some (.int x3), some (.int x4)], [], (iq_sh l, I, J, X)) r := by
  unfold zM_far_l30_b at h
  refine iq_G_go (k := 3) (σ' := (36, [some (.ref 76), none, some (.int x2), some (.int x3), some (.int x4)], [.int (I 76 1), .int x4], (iq_sh l, I, J, X))) (fun _ => rfl) ?_
  rcases iq_ite h with ⟨hc_, h⟩ | ⟨hc_, h⟩
  · refine iq_G_pos (c := (I 76 1) < x4) (σ1 := (65, [some (.ref 76), none, some (.int x2), some (.int x3), some (.int x4)], [], (iq_sh l, I, J, X))) (fun _ => rfl) hc_ ?_
    cases h
    exact iq_G_fg (L := [none, none, none, none, none]) trivial ((hx (.inl ()) rfl).1 () rfl)
  · refine iq_G_neg (c := (I 76 1) < x4) (σ1 := (39, [some (.ref 76), none, some (.int x2), some (.int x3), some (.int x4)], [], (iq_sh l, I, J, X))) (fun _ => rfl) hc_ ?_
    refine iq_G_go (k := 6) (σ' := (45, [some (.ref 76), none, some (.int x2), some (.int x3), some (.int x4)], [.int (1 : Int32), .int ((x3 >>> (x2 &&& 31)) &&& (1 : Int32))], (iq_sh l, I, J, X))) (fun _ => rfl) ?_
    rcases iq_ite h with ⟨hc_, h⟩ | ⟨hc_, h⟩
    · refine iq_G_pos (c := ¬ ((x3 >>> (x2 &&& 31)) &&& (1 : Int32)) = (1 : Int32)) (σ1 := (51, [some (.ref 76), none, some (.int x2), some (.int x3), some (.int x4)], [], (iq_sh l, I, J, X))) (fun _ => rfl) hc_ ?_
      refine iq_G_go (k := 3) (σ' := (54, [some (.ref 76), none, some (.int x2), some (.int x3), some (.int x4)], [.int x3, .ref 76, .int x3], (iq_sh l, I, J, X))) (fun _ => rfl) ?_
      obtain ⟨q4, hq4, h⟩ := iq_bnd h
      refine iq_G_call (σ' := (57, [some (.ref 76), none, some (.int x2), some (.int x3), some (.int x4)], [.int q4, .int x3], (iq_sh l, I, J, X))) (fun _ => rfl) (zM_onward_ok l x3 I J X hq4) rfl rfl ?_
      refine iq_G_go (k := 4) (σ' := (30, [some (.ref 76), none, some (.int x2), some (.int (x3 ||| q4)), some (.int (x4 + (1 : Int32)))], [], (iq_sh l, I, J, X))) (fun _ => rfl) ?_
      cases h
      exact iq_G_fg (L := [some (.ref 76), none, some (.int x2), some (.int (x3 ||| q4)), some (.int (x4 + (1 : Int32)))]) (And.intro rfl (And.intro rfl (And.intro rfl (And.intro rfl trivial)))) (hc ((x3 ||| q4), (x4 + (1 : Int32))) rfl)
    · refine iq_G_neg (c := ¬ ((x3 >>> (x2 &&& 31)) &&& (1 : Int32)) = (1 : Int32)) (σ1 := (48, [some (.ref 76), none, some (.int x2), some (.int x3), some (.int x4)], [], (iq_sh l, I, J, X))) (fun _ => rfl) hc_ ?_
      refine iq_G_go (k := 1) (σ' := (50, [some (.ref 76), none, some (.int x2), some (.int x3), some (.int x4)], [.int x4], (iq_sh l, I, J, X))) (fun _ => rfl) ?_
      cases h
      obtain rfl := (hx _ rfl).2 _ rfl
      exact iq_G_ret (fun _ => rfl)
set_option maxRecDepth 100000 in
theorem zM_far_l30_ok (l : Nat)  (x2 : Int32) (I : iq_I) (J : iq_J) (X : iq_X) {n : Nat} {v : Int32 × Int32} {w : (Unit) ⊕ (Int32 × iq_I)} (h : zM_far_l30 x2 I n v = some w) (r : iq_R × iq_M) (hq : (∀ a, w = .inl a → iq_Gg 3 299 (65, [none, none, none, none, none], [], (iq_sh l, I, J, X)) r) ∧ (∀ b, w = .inr b → r = (.inl (some (.int b.1)), (iq_sh l, b.2, J, X)))) : iq_Gg 3 299 (30, [some (.ref 76), none, some (.int x2), some (.int v.1), some (.int v.2)], [], (iq_sh l, I, J, X)) r :=
  iq_lp_ok (σ := fun v => (30, [some (.ref 76), none, some (.int x2), some (.int v.1), some (.int v.2)], [], (iq_sh l, I, J, X))) (Q := fun w r => (∀ a, w = .inl a → iq_Gg 3 299 (65, [none, none, none, none, none], [], (iq_sh l, I, J, X)) r) ∧ (∀ b, w = .inr b → r = (.inl (some (.int b.1)), (iq_sh l, b.2, J, X)))) (fun v q hv r h1 h2 => zM_far_l30_bok l x2 I J X v.1 v.2 hv r h1 h2) h r hq
set_option maxRecDepth 100000 in
theorem zM_far_ok (l : Nat)  (x1 : Int32) (x2 : Int32) (I : iq_I) (J : iq_J) (X : iq_X) {q : Int32 × iq_I} (h : zM_far x1 x2 I = some q) : iq_Cc 4 299 [.ref 76, .int x1, .int x2] (iq_sh l, I, J, X) (.inl (some (.int q.1)), (iq_sh l, q.2, J, X)) := by
  refine iq_Cc_of (L := [some (.ref 76), some (.int x1), some (.int x2), none, none]) rfl rfl ?_
  unfold zM_far at h
  refine iq_G_go (k := 2) (σ' := (2, [some (.ref 76), some (.int x1), some (.int x2), none, none], [.int (0 : Int32), .ref 76], (iq_sh l, I, J, X))) (fun _ => rfl) ?_
  refine iq_G_go (k := 1) (σ' := (5, [some (.ref 76), some (.int x1), some (.int x2), none, none], [], (iq_sh l, (iq_upI I 76 0 (0 : Int32)), J, X))) (fun _ => rfl) ?_
  obtain ⟨I1, eI1, h⟩ := ir_letG h
  rw [← eI1]
  clear eI1
  refine iq_G_go (k := 2) (σ' := (7, [some (.ref 76), some (.int x1), some (.int x2), none, none], [.int x1, .ref 76], (iq_sh l, I1, J, X))) (fun _ => rfl) ?_
  obtain ⟨q2, hq2, h⟩ := iq_bnd h
  refine iq_G_call (σ' := (10, [some (.ref 76), some (.int x1), some (.int x2), none, none], [.int q2.1], (iq_sh l, q2.2, J, X))) (fun _ => rfl) (zM_isState_ok l x1 I1 J X hq2) rfl rfl ?_
  rcases iq_ite h with ⟨hc_, h⟩ | ⟨hc_, h⟩
  · refine iq_G_pos (c := q2.1 = 0) (σ1 := (21, [some (.ref 76), some (.int x1), some (.int x2), none, none], [], (iq_sh l, q2.2, J, X))) (fun _ => rfl) hc_ ?_
    refine iq_G_go (k := 1) (σ' := (22, [some (.ref 76), some (.int x1), some (.int x2), none, none], [.int (0 : Int32)], (iq_sh l, q2.2, J, X))) (fun _ => rfl) ?_
    cases h
    exact iq_G_ret (fun _ => rfl)
  · refine iq_G_neg (c := q2.1 = 0) (σ1 := (13, [some (.ref 76), some (.int x1), some (.int x2), none, none], [], (iq_sh l, q2.2, J, X))) (fun _ => rfl) hc_ ?_
    refine iq_G_go (k := 2) (σ' := (15, [some (.ref 76), some (.int x1), some (.int x2), none, none], [.int x2, .ref 76], (iq_sh l, q2.2, J, X))) (fun _ => rfl) ?_
    obtain ⟨q3, hq3, h⟩ := iq_bnd h
    refine iq_G_call (σ' := (18, [some (.ref 76), some (.int x1), some (.int x2), none, none], [.int q3.1], (iq_sh l, q3.2, J, X))) (fun _ => rfl) (zM_isState_ok l x2 q2.2 J X hq3) rfl rfl ?_
    rcases iq_ite h with ⟨hc_, h⟩ | ⟨hc_, h⟩
    · refine iq_G_pos (c := ¬ q3.1 = 0) (σ1 := (23, [some (.ref 76), some (.int x1), some (.int x2), none, none], [], (iq_sh l, q3.2, J, X))) (fun _ => rfl) hc_ ?_
      refine iq_G_go (k := 6) (σ' := (30, [some (.ref 76), some (.int x1), some (.int x2), some (.int ((1 : Int32) <<< (x1 &&& 31))), some (.int (0 : Int32))], [], (iq_sh l, q3.2, J, X))) (fun _ => rfl) ?_
      obtain ⟨w5, hw5, h⟩ := iq_bnd h
      refine iq_G_fg (L := [some (.ref 76), none, some (.int x2), some (.int ((1 : Int32) <<< (x1 &&& 31))), some (.int (0 : Int32))]) (And.intro rfl (And.intro rfl (And.intro rfl (And.intro rfl trivial)))) ?_
      refine zM_far_l30_ok l x2 q3.2 J X hw5 _ ⟨fun a6 ha => ?_, fun b7 hb => ?_⟩
      · subst ha
        replace h := ir_smL h
        show iq_Gg 3 299 (65, [none, none, none, none, none], [], (iq_sh l, q3.2, J, X)) _
        refine iq_G_go (k := 1) (σ' := (66, [none, none, none, none, none], [.int (-1 : Int32)], (iq_sh l, q3.2, J, X))) (fun _ => rfl) ?_
        cases h
        exact iq_G_ret (fun _ => rfl)
      · subst hb
        replace h := ir_smR h
        cases h
        rfl
    · refine iq_G_neg (c := ¬ q3.1 = 0) (σ1 := (21, [some (.ref 76), some (.int x1), some (.int x2), none, none], [], (iq_sh l, q3.2, J, X))) (fun _ => rfl) hc_ ?_
      refine iq_G_go (k := 1) (σ' := (22, [some (.ref 76), some (.int x1), some (.int x2), none, none], [.int (0 : Int32)], (iq_sh l, q3.2, J, X))) (fun _ => rfl) ?_
      cases h
      exact iq_G_ret (fun _ => rfl)
set_option maxRecDepth 100000 in
theorem zP_reached_l15_bok (l : Nat)   (I : iq_I) (J : iq_J) (X : iq_X) (x2 : Int32) (x3 : Int32)  {q : (Int32 × Int32) ⊕ (Int32)} (h : zP_reached_l15_b I x2 x3 = some q) (r : iq_R × iq_M) (hc : ∀ v, q = .inl v → iq_Gg 2 81 (15, [some (.ref 63), none, some (.int v.1), some (.int v.2)], [], (iq_sh l, I, J, X)) r) (hx : ∀ w, q = .inr w → iq_Gg 2 81 (40, [none, none, some (.int w), none], [], (iq_sh l, I, J, X)) r) : iq_Gg 2 81 (15, [some (.ref 63), none, some (.int x2), some (.int x3)], [], (iq_sh l, I, J, X)) r := by
  unfold zP_reached_l15_b at h
  refine iq_G_go (k := 4) (σ' := (23, [some (.ref 63), none, some (.int x2), some (.int x3)], [.int (I 4 0), .int x3], (iq_sh l, I, J, X))) (fun _ => rfl) ?_
  rcases iq_ite h with ⟨hc_, h⟩ | ⟨hc_, h⟩
  · refine iq_G_pos (c := (I 4 0) ≤ x3) (σ1 := (40, [some (.ref 63), none, some (.int x2), some (.int x3)], [], (iq_sh l, I, J, X))) (fun _ => rfl) hc_ ?_
    cases h
    exact iq_G_fg (L := [none, none, some (.int x2), none]) (And.intro rfl trivial) (hx x2 rfl)
  · refine iq_G_neg (c := (I 4 0) ≤ x3) (σ1 := (26, [some (.ref 63), none, some (.int x2), some (.int x3)], [], (iq_sh l, I, J, X))) (fun _ => rfl) hc_ ?_
    refine iq_G_go (k := 3) (σ' := (29, [some (.ref 63), none, some (.int x2), some (.int x3)], [.int x2, .ref 63, .int x2], (iq_sh l, I, J, X))) (fun _ => rfl) ?_
    obtain ⟨q3, hq3, h⟩ := iq_bnd h
    refine iq_G_call (σ' := (32, [some (.ref 63), none, some (.int x2), some (.int x3)], [.int q3, .int x2], (iq_sh l, I, J, X))) (fun _ => rfl) (zP_allBehind_ok l x2 I J X hq3) rfl rfl ?_
    refine iq_G_go (k := 4) (σ' := (15, [some (.ref 63), none, some (.int (x2 ||| q3)), some (.int (x3 + (1 : Int32)))], [], (iq_sh l, I, J, X))) (fun _ => rfl) ?_
    cases h
    exact iq_G_fg (L := [some (.ref 63), none, some (.int (x2 ||| q3)), some (.int (x3 + (1 : Int32)))]) (And.intro rfl (And.intro rfl (And.intro rfl trivial))) (hc ((x2 ||| q3), (x3 + (1 : Int32))) rfl)
set_option maxRecDepth 100000 in
theorem zP_reached_l15_ok (l : Nat)   (I : iq_I) (J : iq_J) (X : iq_X) {n : Nat} {v : Int32 × Int32} {w : Int32} (h : zP_reached_l15 I n v = some w) (r : iq_R × iq_M) (hq : iq_Gg 2 81 (40, [none, none, some (.int w), none], [], (iq_sh l, I, J, X)) r) : iq_Gg 2 81 (15, [some (.ref 63), none, some (.int v.1), some (.int v.2)], [], (iq_sh l, I, J, X)) r :=
  iq_lp_ok (σ := fun v => (15, [some (.ref 63), none, some (.int v.1), some (.int v.2)], [], (iq_sh l, I, J, X))) (Q := fun w r => iq_Gg 2 81 (40, [none, none, some (.int w), none], [], (iq_sh l, I, J, X)) r) (fun v q hv r h1 h2 => zP_reached_l15_bok l I J X v.1 v.2 hv r h1 h2) h r hq
set_option maxRecDepth 100000 in
theorem zP_reached_ok (l : Nat)  (x1 : Int32) (I : iq_I) (J : iq_J) (X : iq_X) {q : Int32 × iq_I} (h : zP_reached x1 I = some q) : iq_Cc 3 81 [.ref 63, .int x1] (iq_sh l, I, J, X) (.inl (some (.int q.1)), (iq_sh l, q.2, J, X)) := by
  refine iq_Cc_of (L := [some (.ref 63), some (.int x1), none, none]) rfl rfl ?_
  unfold zP_reached at h
  refine iq_G_go (k := 2) (σ' := (2, [some (.ref 63), some (.int x1), none, none], [.int (0 : Int32), .ref 63], (iq_sh l, I, J, X))) (fun _ => rfl) ?_
  obtain ⟨q1, hq1, h⟩ := iq_bnd h
  refine iq_G_call (σ' := (5, [some (.ref 63), some (.int x1), none, none], [], (iq_sh l, q1, J, X))) (fun _ => rfl) (zP_lookBehind_ok l (0 : Int32) I J X hq1) rfl rfl ?_
  refine iq_G_go (k := 4) (σ' := (9, [some (.ref 63), some (.int x1), none, none], [.int ((1 : Int32) <<< (x1 &&& 31)), .ref 63], (iq_sh l, q1, J, X))) (fun _ => rfl) ?_
  obtain ⟨q2, hq2, h⟩ := iq_bnd h
  refine iq_G_call (σ' := (12, [some (.ref 63), some (.int x1), none, none], [.int q2], (iq_sh l, q1, J, X))) (fun _ => rfl) (zP_allBehind_ok l ((1 : Int32) <<< (x1 &&& 31)) q1 J X hq2) rfl rfl ?_
  refine iq_G_go (k := 3) (σ' := (15, [some (.ref 63), some (.int x1), some (.int q2), some (.int (1 : Int32))], [], (iq_sh l, q1, J, X))) (fun _ => rfl) ?_
  obtain ⟨w4, hw4, h⟩ := iq_bnd h
  refine iq_G_fg (L := [some (.ref 63), none, some (.int q2), some (.int (1 : Int32))]) (And.intro rfl (And.intro rfl (And.intro rfl trivial))) ?_
  refine zP_reached_l15_ok l q1 J X hw4 _ ?_
  show iq_Gg 2 81 (40, [none, none, some (.int w4), none], [], (iq_sh l, q1, J, X)) _
  refine iq_G_go (k := 1) (σ' := (41, [none, none, some (.int w4), none], [.int w4], (iq_sh l, q1, J, X))) (fun _ => rfl) ?_
  cases h
  exact iq_G_ret (fun _ => rfl)
set_option maxRecDepth 100000 in
theorem zO_doors_ok (l : Nat)  (x1 : Int32) (I : iq_I) (J : iq_J) (X : iq_X) {q : (Int32 ⊕ Nat) × iq_I × iq_X} (h : zO_doors x1 I X = some q) : iq_Cc 4 180 [.ref 1, .int x1] (iq_sh l, I, J, X) ((ir_Ri q.1), (iq_sh l, q.2.1, J, q.2.2)) := by
  refine iq_Cc_of (L := [some (.ref 1), some (.int x1)]) rfl rfl ?_
  unfold zO_doors at h
  refine iq_G_go (k := 2) (σ' := (2, [some (.ref 1), some (.int x1)], [.int x1, .ref 1], (iq_sh l, I, J, X))) (fun _ => rfl) ?_
  obtain ⟨q1, hq1, h⟩ := iq_bnd h
  have hC := (zO_needState_ok l x1 I J X hq1)
  rcases iq_smc h with ⟨a2, ha, h⟩ | ⟨k3, ha, h⟩
  · rw [ha] at hC
    refine iq_G_call (σ' := (5, [some (.ref 1), some (.int x1)], [], (iq_sh l, I, J, q1.2))) (fun _ => rfl) hC rfl rfl ?_
    refine iq_G_go (k := 3) (σ' := (10, [some (.ref 1), some (.int x1)], [.int x1, .ref 63], (iq_sh l, I, J, q1.2))) (fun _ => rfl) ?_
    obtain ⟨q4, hq4, h⟩ := iq_bnd h
    refine iq_G_call (σ' := (13, [some (.ref 1), some (.int x1)], [.int q4.1], (iq_sh l, q4.2, J, q1.2))) (fun _ => rfl) (zP_reached_ok l x1 I J q1.2 hq4) rfl rfl ?_
    cases h
    exact iq_G_ret (fun _ => rfl)
  · rw [ha] at hC
    cases h
    exact iq_G_callx (fun _ => rfl) hC rfl rfl
set_option maxRecDepth 100000 in
theorem zL_doors_ok (l : Nat)  (x1 : Int32) (I : iq_I) (J : iq_J) (X : iq_X) {q : Int32 × iq_I × iq_J × iq_X} (h : zL_doors x1 I J X = some q) : iq_Cc 5 349 [.ref 1, .int x1, .ref 114] (iq_sh l, I, J, X) (.inl (some (.int q.1)), (iq_sh l, q.2.1, q.2.2.1, q.2.2.2)) := by
  refine iq_Cc_of (L := [some (.ref 1), some (.int x1), some (.ref 114), none]) rfl rfl ?_
  unfold zL_doors at h
  refine iq_G_go (k := 4) (σ' := (4, [some (.ref 1), some (.int x1), some (.ref 114), none], [.int x1, .ref 1, .int (0 : Int32), .ref 114], (iq_sh l, I, J, X))) (fun _ => rfl) ?_
  obtain ⟨q1, hq1, h⟩ := iq_bnd h
  have hC := (zO_doors_ok l x1 I J X hq1)
  rcases iq_smc h with ⟨a2, ha, h⟩ | ⟨k3, ha, h⟩
  · rw [ha] at hC
    refine iq_G_call (σ' := (7, [some (.ref 1), some (.int x1), some (.ref 114), none], [.int a2, .int (0 : Int32), .ref 114], (iq_sh l, q1.2.1, J, q1.2.2))) (fun _ => rfl) hC rfl rfl ?_
    refine iq_G_go (k := 1) (σ' := (8, [some (.ref 1), some (.int x1), some (.ref 114), none], [.long (Int32.toInt64 a2), .int (0 : Int32), .ref 114], (iq_sh l, q1.2.1, J, q1.2.2))) (fun _ => rfl) ?_
    refine iq_G_go (k := 1) (σ' := (9, [some (.ref 1), some (.int x1), some (.ref 114), none], [], (iq_sh l, q1.2.1, (iq_upJ J 114 0 (Int32.toInt64 a2)), q1.2.2))) (fun _ => rfl) ?_
    obtain ⟨J4, eJ4, h⟩ := ir_letG h
    rw [← eJ4]
    clear eJ4
    refine iq_G_go (k := 2) (σ' := (16, [some (.ref 1), some (.int x1), some (.ref 114), none], [.int (0 : Int32)], (iq_sh l, q1.2.1, J4, q1.2.2))) (fun _ => rfl) ?_
    cases h
    exact iq_G_ret (fun _ => rfl)
  · rw [ha] at hC
    rcases iq_ite h with ⟨e, h⟩ | ⟨_, h⟩
    · subst e
      refine iq_G_call (σ' := (13, [some (.ref 1), some (.int x1), some (.ref 114), none], [], (iq_sh l, q1.2.1, J, q1.2.2))) (fun _ => rfl) hC rfl rfl ?_
      refine iq_G_go (k := 1) (σ' := (14, [some (.ref 1), some (.int x1), some (.ref 114), none], [.int (1 : Int32)], (iq_sh l, q1.2.1, J, q1.2.2))) (fun _ => rfl) ?_
      cases h
      exact iq_G_ret (fun _ => rfl)
    · obtain ⟨e, h⟩ := iq_itn h
      cases h
set_option maxRecDepth 100000 in
theorem zM_doorsOf_l10_bok (l : Nat)   (I : iq_I) (J : iq_J) (X : iq_X) (x2 : Int32) (x3 : Int32)  {q : (Int32 × Int32) ⊕ (Int32)} (h : zM_doorsOf_l10_b I x2 x3 = some q) (r : iq_R × iq_M) (hc : ∀ v, q = .inl v → iq_Gg 3 297 (10, [some (.ref 76), none, some (.int v.1), some (.int v.2)], [], (iq_sh l, I, J, X)) r) (hx : ∀ w, q = .inr w → iq_Gg 3 297 (32, [none, none, some (.int w), none], [], (iq_sh l, I, J, X)) r) : iq_Gg 3 297 (10, [some (.ref 76), none, some (.int x2), some (.int x3)], [], (iq_sh l, I, J, X)) r := by
  unfold zM_doorsOf_l10_b at h
  refine iq_G_go (k := 3) (σ' := (15, [some (.ref 76), none, some (.int x2), some (.int x3)], [.int (I 76 1), .int x3], (iq_sh l, I, J, X))) (fun _ => rfl) ?_
  rcases iq_ite h with ⟨hc_, h⟩ | ⟨hc_, h⟩
  · refine iq_G_pos (c := (I 76 1) ≤ x3) (σ1 := (32, [some (.ref 76), none, some (.int x2), some (.int x3)], [], (iq_sh l, I, J, X))) (fun _ => rfl) hc_ ?_
    cases h
    exact iq_G_fg (L := [none, none, some (.int x2), none]) (And.intro rfl trivial) (hx x2 rfl)
  · refine iq_G_neg (c := (I 76 1) ≤ x3) (σ1 := (18, [some (.ref 76), none, some (.int x2), some (.int x3)], [], (iq_sh l, I, J, X))) (fun _ => rfl) hc_ ?_
    refine iq_G_go (k := 3) (σ' := (21, [some (.ref 76), none, some (.int x2), some (.int x3)], [.int x2, .ref 76, .int x2], (iq_sh l, I, J, X))) (fun _ => rfl) ?_
    obtain ⟨q2, hq2, h⟩ := iq_bnd h
    refine iq_G_call (σ' := (24, [some (.ref 76), none, some (.int x2), some (.int x3)], [.int q2, .int x2], (iq_sh l, I, J, X))) (fun _ => rfl) (zM_onward_ok l x2 I J X hq2) rfl rfl ?_
    refine iq_G_go (k := 4) (σ' := (10, [some (.ref 76), none, some (.int (x2 ||| q2)), some (.int (x3 + (1 : Int32)))], [], (iq_sh l, I, J, X))) (fun _ => rfl) ?_
    cases h
    exact iq_G_fg (L := [some (.ref 76), none, some (.int (x2 ||| q2)), some (.int (x3 + (1 : Int32)))]) (And.intro rfl (And.intro rfl (And.intro rfl trivial))) (hc ((x2 ||| q2), (x3 + (1 : Int32))) rfl)
set_option maxRecDepth 100000 in
theorem zM_doorsOf_l10_ok (l : Nat)   (I : iq_I) (J : iq_J) (X : iq_X) {n : Nat} {v : Int32 × Int32} {w : Int32} (h : zM_doorsOf_l10 I n v = some w) (r : iq_R × iq_M) (hq : iq_Gg 3 297 (32, [none, none, some (.int w), none], [], (iq_sh l, I, J, X)) r) : iq_Gg 3 297 (10, [some (.ref 76), none, some (.int v.1), some (.int v.2)], [], (iq_sh l, I, J, X)) r :=
  iq_lp_ok (σ := fun v => (10, [some (.ref 76), none, some (.int v.1), some (.int v.2)], [], (iq_sh l, I, J, X))) (Q := fun w r => iq_Gg 3 297 (32, [none, none, some (.int w), none], [], (iq_sh l, I, J, X)) r) (fun v q hv r h1 h2 => zM_doorsOf_l10_bok l I J X v.1 v.2 hv r h1 h2) h r hq
set_option maxRecDepth 100000 in
theorem zM_doorsOf_ok (l : Nat)  (x1 : Int32) (I : iq_I) (J : iq_J) (X : iq_X) {q : Int32} (h : zM_doorsOf x1 I = some q) : iq_Cc 4 297 [.ref 76, .int x1] (iq_sh l, I, J, X) (.inl (some (.int q)), (iq_sh l, I, J, X)) := by
  refine iq_Cc_of (L := [some (.ref 76), some (.int x1), none, none]) rfl rfl ?_
  unfold zM_doorsOf at h
  refine iq_G_go (k := 4) (σ' := (4, [some (.ref 76), some (.int x1), none, none], [.int ((1 : Int32) <<< (x1 &&& 31)), .ref 76], (iq_sh l, I, J, X))) (fun _ => rfl) ?_
  obtain ⟨q1, hq1, h⟩ := iq_bnd h
  refine iq_G_call (σ' := (7, [some (.ref 76), some (.int x1), none, none], [.int q1], (iq_sh l, I, J, X))) (fun _ => rfl) (zM_onward_ok l ((1 : Int32) <<< (x1 &&& 31)) I J X hq1) rfl rfl ?_
  refine iq_G_go (k := 3) (σ' := (10, [some (.ref 76), some (.int x1), some (.int q1), some (.int (0 : Int32))], [], (iq_sh l, I, J, X))) (fun _ => rfl) ?_
  obtain ⟨w3, hw3, h⟩ := iq_bnd h
  refine iq_G_fg (L := [some (.ref 76), none, some (.int q1), some (.int (0 : Int32))]) (And.intro rfl (And.intro rfl (And.intro rfl trivial))) ?_
  refine zM_doorsOf_l10_ok l I J X hw3 _ ?_
  show iq_Gg 3 297 (32, [none, none, some (.int w3), none], [], (iq_sh l, I, J, X)) _
  refine iq_G_go (k := 1) (σ' := (33, [none, none, some (.int w3), none], [.int w3], (iq_sh l, I, J, X))) (fun _ => rfl) ?_
  cases h
  exact iq_G_ret (fun _ => rfl)
set_option maxRecDepth 100000 in
theorem zM_doors_ok (l : Nat)  (x1 : Int32) (I : iq_I) (J : iq_J) (X : iq_X) {q : Int32 × iq_I} (h : zM_doors x1 I = some q) : iq_Cc 5 298 [.ref 76, .int x1] (iq_sh l, I, J, X) (.inl (some (.int q.1)), (iq_sh l, q.2, J, X)) := by
  refine iq_Cc_of (L := [some (.ref 76), some (.int x1)]) rfl rfl ?_
  unfold zM_doors at h
  refine iq_G_go (k := 2) (σ' := (2, [some (.ref 76), some (.int x1)], [.int (0 : Int32), .ref 76], (iq_sh l, I, J, X))) (fun _ => rfl) ?_
  refine iq_G_go (k := 1) (σ' := (5, [some (.ref 76), some (.int x1)], [], (iq_sh l, (iq_upI I 76 0 (0 : Int32)), J, X))) (fun _ => rfl) ?_
  obtain ⟨I1, eI1, h⟩ := ir_letG h
  rw [← eI1]
  clear eI1
  refine iq_G_go (k := 2) (σ' := (7, [some (.ref 76), some (.int x1)], [.int x1, .ref 76], (iq_sh l, I1, J, X))) (fun _ => rfl) ?_
  obtain ⟨q2, hq2, h⟩ := iq_bnd h
  refine iq_G_call (σ' := (10, [some (.ref 76), some (.int x1)], [.int q2.1], (iq_sh l, q2.2, J, X))) (fun _ => rfl) (zM_isState_ok l x1 I1 J X hq2) rfl rfl ?_
  rcases iq_ite h with ⟨hc_, h⟩ | ⟨hc_, h⟩
  · refine iq_G_pos (c := q2.1 = 0) (σ1 := (21, [some (.ref 76), some (.int x1)], [], (iq_sh l, q2.2, J, X))) (fun _ => rfl) hc_ ?_
    refine iq_G_go (k := 1) (σ' := (22, [some (.ref 76), some (.int x1)], [.int (0 : Int32)], (iq_sh l, q2.2, J, X))) (fun _ => rfl) ?_
    cases h
    exact iq_G_ret (fun _ => rfl)
  · refine iq_G_neg (c := q2.1 = 0) (σ1 := (13, [some (.ref 76), some (.int x1)], [], (iq_sh l, q2.2, J, X))) (fun _ => rfl) hc_ ?_
    refine iq_G_go (k := 2) (σ' := (15, [some (.ref 76), some (.int x1)], [.int x1, .ref 76], (iq_sh l, q2.2, J, X))) (fun _ => rfl) ?_
    obtain ⟨q3, hq3, h⟩ := iq_bnd h
    refine iq_G_call (σ' := (18, [some (.ref 76), some (.int x1)], [.int q3], (iq_sh l, q2.2, J, X))) (fun _ => rfl) (zM_doorsOf_ok l x1 q2.2 J X hq3) rfl rfl ?_
    refine iq_G_go (k := 1) (σ' := (22, [some (.ref 76), some (.int x1)], [.int q3], (iq_sh l, q2.2, J, X))) (fun _ => rfl) ?_
    cases h
    exact iq_G_ret (fun _ => rfl)
set_option maxRecDepth 100000 in
theorem zP_deadEnds_l4_bok (l : Nat)  (x1 : Int32) (I : iq_I) (J : iq_J) (X : iq_X) (x2 : Int32) (x3 : Int32)  {q : (Int32 × Int32) ⊕ (Int32)} (h : zP_deadEnds_l4_b x1 I x2 x3 = some q) (r : iq_R × iq_M) (hc : ∀ v, q = .inl v → iq_Gg 2 80 (4, [some (.ref 63), some (.int x1), some (.int v.1), some (.int v.2), none], [], (iq_sh l, I, J, X)) r) (hx : ∀ w, q = .inr w → iq_Gg 2 80 (56, [none, none, some (.int w), none, none], [], (iq_sh l, I, J, X)) r) : iq_Gg 2 80 (4, [some (.ref 63), some (.int x1), some (.int x2), some (.int x3), none], [], (iq_sh l, I, J, X)) r := by
  unfold zP_deadEnds_l4_b at h
  refine iq_G_go (k := 4) (σ' := (12, [some (.ref 63), some (.int x1), some (.int x2), some (.int x3), none], [.int (I 4 2), .int x3], (iq_sh l, I, J, X))) (fun _ => rfl) ?_
  rcases iq_ite h with ⟨hc_, h⟩ | ⟨hc_, h⟩
  · refine iq_G_pos (c := (I 4 2) ≤ x3) (σ1 := (56, [some (.ref 63), some (.int x1), some (.int x2), some (.int x3), none], [], (iq_sh l, I, J, X))) (fun _ => rfl) hc_ ?_
    cases h
    exact iq_G_fg (L := [none, none, some (.int x2), none, none]) (And.intro rfl trivial) (hx x2 rfl)
  · refine iq_G_neg (c := (I 4 2) ≤ x3) (σ1 := (15, [some (.ref 63), some (.int x1), some (.int x2), some (.int x3), none], [], (iq_sh l, I, J, X))) (fun _ => rfl) hc_ ?_
    refine iq_G_go (k := 4) (σ' := (21, [some (.ref 63), some (.int x1), some (.int x2), some (.int x3), none], [.int x3, .int x1, .ref 4], (iq_sh l, I, J, X))) (fun _ => rfl) ?_
    obtain ⟨q1, hq1, h⟩ := iq_bnd h
    refine iq_G_call (σ' := (24, [some (.ref 63), some (.int x1), some (.int x2), some (.int x3), none], [.int q1], (iq_sh l, I, J, X))) (fun _ => rfl) (zU_leadsTo_4_ok l x1 x3 I J X hq1) rfl rfl ?_
    refine iq_G_go (k := 3) (σ' := (29, [some (.ref 63), some (.int x1), some (.int x2), some (.int x3), some (.int q1)], [.int (-1 : Int32), .int q1], (iq_sh l, I, J, X))) (fun _ => rfl) ?_
    rcases iq_ite h with ⟨hc_, h⟩ | ⟨hc_, h⟩
    · refine iq_G_pos (c := q1 = (-1 : Int32)) (σ1 := (50, [some (.ref 63), some (.int x1), some (.int x2), some (.int x3), some (.int q1)], [], (iq_sh l, I, J, X))) (fun _ => rfl) hc_ ?_
      refine iq_G_go (k := 2) (σ' := (4, [some (.ref 63), some (.int x1), some (.int x2), some (.int (x3 + (1 : Int32))), some (.int q1)], [], (iq_sh l, I, J, X))) (fun _ => rfl) ?_
      cases h
      exact iq_G_fg (L := [some (.ref 63), some (.int x1), some (.int x2), some (.int (x3 + (1 : Int32))), none]) (And.intro rfl (And.intro rfl (And.intro rfl (And.intro rfl trivial)))) (hc (x2, (x3 + (1 : Int32))) rfl)
    · refine iq_G_neg (c := q1 = (-1 : Int32)) (σ1 := (32, [some (.ref 63), some (.int x1), some (.int x2), some (.int x3), some (.int q1)], [], (iq_sh l, I, J, X))) (fun _ => rfl) hc_ ?_
      refine iq_G_go (k := 3) (σ' := (38, [some (.ref 63), some (.int x1), some (.int x2), some (.int x3), some (.int q1)], [.int q1, .ref 4], (iq_sh l, I, J, X))) (fun _ => rfl) ?_
      obtain ⟨q2, hq2, h⟩ := iq_bnd h
      refine iq_G_call (σ' := (41, [some (.ref 63), some (.int x1), some (.int x2), some (.int x3), some (.int q1)], [.int q2], (iq_sh l, I, J, X))) (fun _ => rfl) (zU_someFollows_ok l q1 I J X hq2) rfl rfl ?_
      rcases iq_ite h with ⟨hc_, h⟩ | ⟨hc_, h⟩
      · refine iq_G_pos (c := ¬ q2 = 0) (σ1 := (50, [some (.ref 63), some (.int x1), some (.int x2), some (.int x3), some (.int q1)], [], (iq_sh l, I, J, X))) (fun _ => rfl) hc_ ?_
        refine iq_G_go (k := 2) (σ' := (4, [some (.ref 63), some (.int x1), some (.int x2), some (.int (x3 + (1 : Int32))), some (.int q1)], [], (iq_sh l, I, J, X))) (fun _ => rfl) ?_
        cases h
        exact iq_G_fg (L := [some (.ref 63), some (.int x1), some (.int x2), some (.int (x3 + (1 : Int32))), none]) (And.intro rfl (And.intro rfl (And.intro rfl (And.intro rfl trivial)))) (hc (x2, (x3 + (1 : Int32))) rfl)
      · refine iq_G_neg (c := ¬ q2 = 0) (σ1 := (44, [some (.ref 63), some (.int x1), some (.int x2), some (.int x3), some (.int q1)], [], (iq_sh l, I, J, X))) (fun _ => rfl) hc_ ?_
        refine iq_G_go (k := 8) (σ' := (4, [some (.ref 63), some (.int x1), some (.int (x2 ||| ((1 : Int32) <<< (x3 &&& 31)))), some (.int (x3 + (1 : Int32))), some (.int q1)], [], (iq_sh l, I, J, X))) (fun _ => rfl) ?_
        cases h
        exact iq_G_fg (L := [some (.ref 63), some (.int x1), some (.int (x2 ||| ((1 : Int32) <<< (x3 &&& 31)))), some (.int (x3 + (1 : Int32))), none]) (And.intro rfl (And.intro rfl (And.intro rfl (And.intro rfl trivial)))) (hc ((x2 ||| ((1 : Int32) <<< (x3 &&& 31))), (x3 + (1 : Int32))) rfl)
set_option maxRecDepth 100000 in
theorem zP_deadEnds_l4_ok (l : Nat)  (x1 : Int32) (I : iq_I) (J : iq_J) (X : iq_X) {n : Nat} {v : Int32 × Int32} {w : Int32} (h : zP_deadEnds_l4 x1 I n v = some w) (r : iq_R × iq_M) (hq : iq_Gg 2 80 (56, [none, none, some (.int w), none, none], [], (iq_sh l, I, J, X)) r) : iq_Gg 2 80 (4, [some (.ref 63), some (.int x1), some (.int v.1), some (.int v.2), none], [], (iq_sh l, I, J, X)) r :=
  iq_lp_ok (σ := fun v => (4, [some (.ref 63), some (.int x1), some (.int v.1), some (.int v.2), none], [], (iq_sh l, I, J, X))) (Q := fun w r => iq_Gg 2 80 (56, [none, none, some (.int w), none, none], [], (iq_sh l, I, J, X)) r) (fun v q hv r h1 h2 => zP_deadEnds_l4_bok l x1 I J X v.1 v.2 hv r h1 h2) h r hq
set_option maxRecDepth 100000 in
theorem zP_deadEnds_ok (l : Nat)  (x1 : Int32) (I : iq_I) (J : iq_J) (X : iq_X) {q : Int32} (h : zP_deadEnds x1 I = some q) : iq_Cc 3 80 [.ref 63, .int x1] (iq_sh l, I, J, X) (.inl (some (.int q)), (iq_sh l, I, J, X)) := by
  refine iq_Cc_of (L := [some (.ref 63), some (.int x1), none, none, none]) rfl rfl ?_
  unfold zP_deadEnds at h
  refine iq_G_go (k := 4) (σ' := (4, [some (.ref 63), some (.int x1), some (.int (0 : Int32)), some (.int (0 : Int32)), none], [], (iq_sh l, I, J, X))) (fun _ => rfl) ?_
  obtain ⟨w3, hw3, h⟩ := iq_bnd h
  refine iq_G_fg (L := [some (.ref 63), some (.int x1), some (.int (0 : Int32)), some (.int (0 : Int32)), none]) (And.intro rfl (And.intro rfl (And.intro rfl (And.intro rfl trivial)))) ?_
  refine zP_deadEnds_l4_ok l x1 I J X hw3 _ ?_
  show iq_Gg 2 80 (56, [none, none, some (.int w3), none, none], [], (iq_sh l, I, J, X)) _
  refine iq_G_go (k := 1) (σ' := (57, [none, none, some (.int w3), none, none], [.int w3], (iq_sh l, I, J, X))) (fun _ => rfl) ?_
  cases h
  exact iq_G_ret (fun _ => rfl)
set_option maxRecDepth 100000 in
theorem zO_crimes_ok (l : Nat)  (x1 : Int32) (I : iq_I) (J : iq_J) (X : iq_X) {q : (Int32 ⊕ Nat) × iq_X} (h : zO_crimes x1 I X = some q) : iq_Cc 4 179 [.ref 1, .int x1] (iq_sh l, I, J, X) ((ir_Ri q.1), (iq_sh l, I, J, q.2)) := by
  refine iq_Cc_of (L := [some (.ref 1), some (.int x1)]) rfl rfl ?_
  unfold zO_crimes at h
  refine iq_G_go (k := 2) (σ' := (2, [some (.ref 1), some (.int x1)], [.int x1, .ref 1], (iq_sh l, I, J, X))) (fun _ => rfl) ?_
  obtain ⟨q1, hq1, h⟩ := iq_bnd h
  have hC := (zO_needState_ok l x1 I J X hq1)
  rcases iq_smc h with ⟨a2, ha, h⟩ | ⟨k3, ha, h⟩
  · rw [ha] at hC
    refine iq_G_call (σ' := (5, [some (.ref 1), some (.int x1)], [], (iq_sh l, I, J, q1.2))) (fun _ => rfl) hC rfl rfl ?_
    refine iq_G_go (k := 3) (σ' := (10, [some (.ref 1), some (.int x1)], [.int x1, .ref 63], (iq_sh l, I, J, q1.2))) (fun _ => rfl) ?_
    obtain ⟨q4, hq4, h⟩ := iq_bnd h
    refine iq_G_call (σ' := (13, [some (.ref 1), some (.int x1)], [.int q4], (iq_sh l, I, J, q1.2))) (fun _ => rfl) (zP_deadEnds_ok l x1 I J q1.2 hq4) rfl rfl ?_
    cases h
    exact iq_G_ret (fun _ => rfl)
  · rw [ha] at hC
    cases h
    exact iq_G_callx (fun _ => rfl) hC rfl rfl
set_option maxRecDepth 100000 in
theorem zL_crimes_ok (l : Nat)  (x1 : Int32) (I : iq_I) (J : iq_J) (X : iq_X) {q : Int32 × iq_J × iq_X} (h : zL_crimes x1 I J X = some q) : iq_Cc 5 348 [.ref 1, .int x1, .ref 114] (iq_sh l, I, J, X) (.inl (some (.int q.1)), (iq_sh l, I, q.2.1, q.2.2)) := by
  refine iq_Cc_of (L := [some (.ref 1), some (.int x1), some (.ref 114), none]) rfl rfl ?_
  unfold zL_crimes at h
  refine iq_G_go (k := 4) (σ' := (4, [some (.ref 1), some (.int x1), some (.ref 114), none], [.int x1, .ref 1, .int (0 : Int32), .ref 114], (iq_sh l, I, J, X))) (fun _ => rfl) ?_
  obtain ⟨q1, hq1, h⟩ := iq_bnd h
  have hC := (zO_crimes_ok l x1 I J X hq1)
  rcases iq_smc h with ⟨a2, ha, h⟩ | ⟨k3, ha, h⟩
  · rw [ha] at hC
    refine iq_G_call (σ' := (7, [some (.ref 1), some (.int x1), some (.ref 114), none], [.int a2, .int (0 : Int32), .ref 114], (iq_sh l, I, J, q1.2))) (fun _ => rfl) hC rfl rfl ?_
    refine iq_G_go (k := 1) (σ' := (8, [some (.ref 1), some (.int x1), some (.ref 114), none], [.long (Int32.toInt64 a2), .int (0 : Int32), .ref 114], (iq_sh l, I, J, q1.2))) (fun _ => rfl) ?_
    refine iq_G_go (k := 1) (σ' := (9, [some (.ref 1), some (.int x1), some (.ref 114), none], [], (iq_sh l, I, (iq_upJ J 114 0 (Int32.toInt64 a2)), q1.2))) (fun _ => rfl) ?_
    obtain ⟨J4, eJ4, h⟩ := ir_letG h
    rw [← eJ4]
    clear eJ4
    refine iq_G_go (k := 2) (σ' := (16, [some (.ref 1), some (.int x1), some (.ref 114), none], [.int (0 : Int32)], (iq_sh l, I, J4, q1.2))) (fun _ => rfl) ?_
    cases h
    exact iq_G_ret (fun _ => rfl)
  · rw [ha] at hC
    rcases iq_ite h with ⟨e, h⟩ | ⟨_, h⟩
    · subst e
      refine iq_G_call (σ' := (13, [some (.ref 1), some (.int x1), some (.ref 114), none], [], (iq_sh l, I, J, q1.2))) (fun _ => rfl) hC rfl rfl ?_
      refine iq_G_go (k := 1) (σ' := (14, [some (.ref 1), some (.int x1), some (.ref 114), none], [.int (1 : Int32)], (iq_sh l, I, J, q1.2))) (fun _ => rfl) ?_
      cases h
      exact iq_G_ret (fun _ => rfl)
    · obtain ⟨e, h⟩ := iq_itn h
      cases h
set_option maxRecDepth 100000 in
theorem zM_crimes_l19_bok (l : Nat)  (x1 : Int32) (I : iq_I) (J : iq_J) (X : iq_X) (x2 : Int32) (x3 : Int32)  {q : (Int32 × Int32) ⊕ (Int32)} (h : zM_crimes_l19_b x1 I x2 x3 = some q) (r : iq_R × iq_M) (hc : ∀ v, q = .inl v → iq_Gg 2 296 (19, [some (.ref 76), some (.int x1), some (.int v.1), some (.int v.2)], [], (iq_sh l, I, J, X)) r) (hx : ∀ w, q = .inr w → iq_Gg 2 296 (66, [none, none, some (.int w), none], [], (iq_sh l, I, J, X)) r) : iq_Gg 2 296 (19, [some (.ref 76), some (.int x1), some (.int x2), some (.int x3)], [], (iq_sh l, I, J, X)) r := by
  unfold zM_crimes_l19_b at h
  refine iq_G_go (k := 3) (σ' := (24, [some (.ref 76), some (.int x1), some (.int x2), some (.int x3)], [.int (I 76 2), .int x3], (iq_sh l, I, J, X))) (fun _ => rfl) ?_
  rcases iq_ite h with ⟨hc_, h⟩ | ⟨hc_, h⟩
  · refine iq_G_pos (c := (I 76 2) ≤ x3) (σ1 := (66, [some (.ref 76), some (.int x1), some (.int x2), some (.int x3)], [], (iq_sh l, I, J, X))) (fun _ => rfl) hc_ ?_
    cases h
    exact iq_G_fg (L := [none, none, some (.int x2), none]) (And.intro rfl trivial) (hx x2 rfl)
  · refine iq_G_neg (c := (I 76 2) ≤ x3) (σ1 := (27, [some (.ref 76), some (.int x1), some (.int x2), some (.int x3)], [], (iq_sh l, I, J, X))) (fun _ => rfl) hc_ ?_
    refine iq_G_go (k := 4) (σ' := (31, [some (.ref 76), some (.int x1), some (.int x2), some (.int x3)], [.int x3, .int x1, .ref 76, .int x2], (iq_sh l, I, J, X))) (fun _ => rfl) ?_
    obtain ⟨q3, hq3, h⟩ := iq_bnd h
    refine iq_G_call (σ' := (34, [some (.ref 76), some (.int x1), some (.int x2), some (.int x3)], [.int q3, .int x2], (iq_sh l, I, J, X))) (fun _ => rfl) (zM_leads_ok l x1 x3 I J X hq3) rfl rfl ?_
    refine iq_G_go (k := 1) (σ' := (35, [some (.ref 76), some (.int x1), some (.int x2), some (.int x3)], [.int (-1 : Int32), .int q3, .int x2], (iq_sh l, I, J, X))) (fun _ => rfl) ?_
    rcases iq_ite h with ⟨hc_, h⟩ | ⟨hc_, h⟩
    · refine iq_G_pos (c := q3 = (-1 : Int32)) (σ1 := (57, [some (.ref 76), some (.int x1), some (.int x2), some (.int x3)], [.int x2], (iq_sh l, I, J, X))) (fun _ => rfl) hc_ ?_
      refine iq_G_go (k := 5) (σ' := (19, [some (.ref 76), some (.int x1), some (.int (x2 ||| (0 : Int32))), some (.int (x3 + (1 : Int32)))], [], (iq_sh l, I, J, X))) (fun _ => rfl) ?_
      cases h
      exact iq_G_fg (L := [some (.ref 76), some (.int x1), some (.int (x2 ||| (0 : Int32))), some (.int (x3 + (1 : Int32)))]) (And.intro rfl (And.intro rfl (And.intro rfl (And.intro rfl trivial)))) (hc ((x2 ||| (0 : Int32)), (x3 + (1 : Int32))) rfl)
    · refine iq_G_neg (c := q3 = (-1 : Int32)) (σ1 := (38, [some (.ref 76), some (.int x1), some (.int x2), some (.int x3)], [.int x2], (iq_sh l, I, J, X))) (fun _ => rfl) hc_ ?_
      refine iq_G_go (k := 4) (σ' := (42, [some (.ref 76), some (.int x1), some (.int x2), some (.int x3)], [.int x3, .int x1, .ref 76, .ref 76, .int x2], (iq_sh l, I, J, X))) (fun _ => rfl) ?_
      obtain ⟨q4, hq4, h⟩ := iq_bnd h
      refine iq_G_call (σ' := (45, [some (.ref 76), some (.int x1), some (.int x2), some (.int x3)], [.int q4, .ref 76, .int x2], (iq_sh l, I, J, X))) (fun _ => rfl) (zM_leads_ok l x1 x3 I J X hq4) rfl rfl ?_
      obtain ⟨q5, hq5, h⟩ := iq_bnd h
      refine iq_G_call (σ' := (48, [some (.ref 76), some (.int x1), some (.int x2), some (.int x3)], [.int q5, .int x2], (iq_sh l, I, J, X))) (fun _ => rfl) (zM_canFollow_ok l q4 I J X hq5) rfl rfl ?_
      rcases iq_ite h with ⟨hc_, h⟩ | ⟨hc_, h⟩
      · refine iq_G_pos (c := ¬ q5 = 0) (σ1 := (57, [some (.ref 76), some (.int x1), some (.int x2), some (.int x3)], [.int x2], (iq_sh l, I, J, X))) (fun _ => rfl) hc_ ?_
        refine iq_G_go (k := 5) (σ' := (19, [some (.ref 76), some (.int x1), some (.int (x2 ||| (0 : Int32))), some (.int (x3 + (1 : Int32)))], [], (iq_sh l, I, J, X))) (fun _ => rfl) ?_
        cases h
        exact iq_G_fg (L := [some (.ref 76), some (.int x1), some (.int (x2 ||| (0 : Int32))), some (.int (x3 + (1 : Int32)))]) (And.intro rfl (And.intro rfl (And.intro rfl (And.intro rfl trivial)))) (hc ((x2 ||| (0 : Int32)), (x3 + (1 : Int32))) rfl)
      · refine iq_G_neg (c := ¬ q5 = 0) (σ1 := (51, [some (.ref 76), some (.int x1), some (.int x2), some (.int x3)], [.int x2], (iq_sh l, I, J, X))) (fun _ => rfl) hc_ ?_
        refine iq_G_go (k := 8) (σ' := (19, [some (.ref 76), some (.int x1), some (.int (x2 ||| ((1 : Int32) <<< (x3 &&& 31)))), some (.int (x3 + (1 : Int32)))], [], (iq_sh l, I, J, X))) (fun _ => rfl) ?_
        cases h
        exact iq_G_fg (L := [some (.ref 76), some (.int x1), some (.int (x2 ||| ((1 : Int32) <<< (x3 &&& 31)))), some (.int (x3 + (1 : Int32)))]) (And.intro rfl (And.intro rfl (And.intro rfl (And.intro rfl trivial)))) (hc ((x2 ||| ((1 : Int32) <<< (x3 &&& 31))), (x3 + (1 : Int32))) rfl)
set_option maxRecDepth 100000 in
theorem zM_crimes_l19_ok (l : Nat)  (x1 : Int32) (I : iq_I) (J : iq_J) (X : iq_X) {n : Nat} {v : Int32 × Int32} {w : Int32} (h : zM_crimes_l19 x1 I n v = some w) (r : iq_R × iq_M) (hq : iq_Gg 2 296 (66, [none, none, some (.int w), none], [], (iq_sh l, I, J, X)) r) : iq_Gg 2 296 (19, [some (.ref 76), some (.int x1), some (.int v.1), some (.int v.2)], [], (iq_sh l, I, J, X)) r :=
  iq_lp_ok (σ := fun v => (19, [some (.ref 76), some (.int x1), some (.int v.1), some (.int v.2)], [], (iq_sh l, I, J, X))) (Q := fun w r => iq_Gg 2 296 (66, [none, none, some (.int w), none], [], (iq_sh l, I, J, X)) r) (fun v q hv r h1 h2 => zM_crimes_l19_bok l x1 I J X v.1 v.2 hv r h1 h2) h r hq
set_option maxRecDepth 100000 in
theorem zM_crimes_ok (l : Nat)  (x1 : Int32) (I : iq_I) (J : iq_J) (X : iq_X) {q : Int32 × iq_I} (h : zM_crimes x1 I = some q) : iq_Cc 3 296 [.ref 76, .int x1] (iq_sh l, I, J, X) (.inl (some (.int q.1)), (iq_sh l, q.2, J, X)) := by
  refine iq_Cc_of (L := [some (.ref 76), some (.int x1), none, none]) rfl rfl ?_
  unfold zM_crimes at h
  refine iq_G_go (k := 2) (σ' := (2, [some (.ref 76), some (.int x1), none, none], [.int (0 : Int32), .ref 76], (iq_sh l, I, J, X))) (fun _ => rfl) ?_
  refine iq_G_go (k := 1) (σ' := (5, [some (.ref 76), some (.int x1), none, none], [], (iq_sh l, (iq_upI I 76 0 (0 : Int32)), J, X))) (fun _ => rfl) ?_
  obtain ⟨I1, eI1, h⟩ := ir_letG h
  rw [← eI1]
  clear eI1
  refine iq_G_go (k := 2) (σ' := (7, [some (.ref 76), some (.int x1), none, none], [.int x1, .ref 76], (iq_sh l, I1, J, X))) (fun _ => rfl) ?_
  obtain ⟨q2, hq2, h⟩ := iq_bnd h
  refine iq_G_call (σ' := (10, [some (.ref 76), some (.int x1), none, none], [.int q2.1], (iq_sh l, q2.2, J, X))) (fun _ => rfl) (zM_isState_ok l x1 I1 J X hq2) rfl rfl ?_
  rcases iq_ite h with ⟨hc_, h⟩ | ⟨hc_, h⟩
  · refine iq_G_pos (c := ¬ q2.1 = 0) (σ1 := (15, [some (.ref 76), some (.int x1), none, none], [], (iq_sh l, q2.2, J, X))) (fun _ => rfl) hc_ ?_
    refine iq_G_go (k := 4) (σ' := (19, [some (.ref 76), some (.int x1), some (.int (0 : Int32)), some (.int (0 : Int32))], [], (iq_sh l, q2.2, J, X))) (fun _ => rfl) ?_
    obtain ⟨w6, hw6, h⟩ := iq_bnd h
    refine iq_G_fg (L := [some (.ref 76), some (.int x1), some (.int (0 : Int32)), some (.int (0 : Int32))]) (And.intro rfl (And.intro rfl (And.intro rfl (And.intro rfl trivial)))) ?_
    refine zM_crimes_l19_ok l x1 q2.2 J X hw6 _ ?_
    show iq_Gg 2 296 (66, [none, none, some (.int w6), none], [], (iq_sh l, q2.2, J, X)) _
    refine iq_G_go (k := 1) (σ' := (67, [none, none, some (.int w6), none], [.int w6], (iq_sh l, q2.2, J, X))) (fun _ => rfl) ?_
    cases h
    exact iq_G_ret (fun _ => rfl)
  · refine iq_G_neg (c := ¬ q2.1 = 0) (σ1 := (13, [some (.ref 76), some (.int x1), none, none], [], (iq_sh l, q2.2, J, X))) (fun _ => rfl) hc_ ?_
    refine iq_G_go (k := 1) (σ' := (14, [some (.ref 76), some (.int x1), none, none], [.int (0 : Int32)], (iq_sh l, q2.2, J, X))) (fun _ => rfl) ?_
    cases h
    exact iq_G_ret (fun _ => rfl)
set_option maxRecDepth 100000 in
theorem zA_copyFrom_53_19_ok (l : Nat)   (I : iq_I) (J : iq_J) (X : iq_X) {q : iq_I} (h : zA_copyFrom_53_19 I = some q) : iq_Cc 1 3 [.ref 53, .ref 19] (iq_sh l, I, J, X) (.inl none, (iq_sh l, q, J, X)) := by
  refine iq_Cc_of (L := [some (.ref 53), some (.ref 19)]) rfl rfl ?_
  unfold zA_copyFrom_53_19 at h
  refine iq_G_go (k := 3) (σ' := (5, [some (.ref 53), some (.ref 19)], [.int (I 19 0), .ref 53], (iq_sh l, I, J, X))) (fun _ => rfl) ?_
  refine iq_G_go (k := 1) (σ' := (8, [some (.ref 53), some (.ref 19)], [], (iq_sh l, (iq_upI I 53 0 (I 19 0)), J, X))) (fun _ => rfl) ?_
  obtain ⟨I1, eI1, h⟩ := ir_letG h
  rw [← eI1]
  clear eI1
  refine iq_G_go (k := 7) (σ' := (20, [some (.ref 53), some (.ref 19)], [.int (40 : Int32), .int (0 : Int32), .ref 54, .int (0 : Int32), .ref 20], (iq_sh l, I1, J, X))) (fun _ => rfl) ?_
  refine iq_G_go (k := 1) (σ' := (23, [some (.ref 53), some (.ref 19)], [], (iq_sh l, (iq_cpI I1 20 54 0 0 40), J, X))) (fun _ => rfl) ?_
  obtain ⟨I2, eI2, h⟩ := ir_letG h
  rw [← eI2]
  clear eI2
  refine iq_G_go (k := 7) (σ' := (35, [some (.ref 53), some (.ref 19)], [.int (40 : Int32), .int (0 : Int32), .ref 55, .int (0 : Int32), .ref 21], (iq_sh l, I2, J, X))) (fun _ => rfl) ?_
  refine iq_G_go (k := 1) (σ' := (38, [some (.ref 53), some (.ref 19)], [], (iq_sh l, (iq_cpI I2 21 55 0 0 40), J, X))) (fun _ => rfl) ?_
  obtain ⟨I3, eI3, h⟩ := ir_letG h
  rw [← eI3]
  clear eI3
  refine iq_G_go (k := 7) (σ' := (50, [some (.ref 53), some (.ref 19)], [.int (40 : Int32), .int (0 : Int32), .ref 56, .int (0 : Int32), .ref 22], (iq_sh l, I3, J, X))) (fun _ => rfl) ?_
  refine iq_G_go (k := 1) (σ' := (53, [some (.ref 53), some (.ref 19)], [], (iq_sh l, (iq_cpI I3 22 56 0 0 40), J, X))) (fun _ => rfl) ?_
  obtain ⟨I4, eI4, h⟩ := ir_letG h
  rw [← eI4]
  clear eI4
  refine iq_G_go (k := 7) (σ' := (65, [some (.ref 53), some (.ref 19)], [.int (40 : Int32), .int (0 : Int32), .ref 57, .int (0 : Int32), .ref 23], (iq_sh l, I4, J, X))) (fun _ => rfl) ?_
  refine iq_G_go (k := 1) (σ' := (68, [some (.ref 53), some (.ref 19)], [], (iq_sh l, (iq_cpI I4 23 57 0 0 40), J, X))) (fun _ => rfl) ?_
  obtain ⟨I5, eI5, h⟩ := ir_letG h
  rw [← eI5]
  clear eI5
  cases h
  exact iq_G_ret (fun _ => rfl)
set_option maxRecDepth 100000 in
theorem zG_copyFrom_50_16_ok (l : Nat)   (I : iq_I) (J : iq_J) (X : iq_X) {q : iq_I} (h : zG_copyFrom_50_16 I = some q) : iq_Cc 2 6 [.ref 50, .ref 16] (iq_sh l, I, J, X) (.inl none, (iq_sh l, q, J, X)) := by
  refine iq_Cc_of (L := [some (.ref 50), some (.ref 16)]) rfl rfl ?_
  unfold zG_copyFrom_50_16 at h
  refine iq_G_go (k := 3) (σ' := (5, [some (.ref 50), some (.ref 16)], [.int (I 16 0), .ref 50], (iq_sh l, I, J, X))) (fun _ => rfl) ?_
  refine iq_G_go (k := 1) (σ' := (8, [some (.ref 50), some (.ref 16)], [], (iq_sh l, (iq_upI I 50 0 (I 16 0)), J, X))) (fun _ => rfl) ?_
  obtain ⟨I1, eI1, h⟩ := ir_letG h
  rw [← eI1]
  clear eI1
  refine iq_G_go (k := 3) (σ' := (13, [some (.ref 50), some (.ref 16)], [.int (I1 16 1), .ref 50], (iq_sh l, I1, J, X))) (fun _ => rfl) ?_
  refine iq_G_go (k := 1) (σ' := (16, [some (.ref 50), some (.ref 16)], [], (iq_sh l, (iq_upI I1 50 1 (I1 16 1)), J, X))) (fun _ => rfl) ?_
  obtain ⟨I2, eI2, h⟩ := ir_letG h
  rw [← eI2]
  clear eI2
  refine iq_G_go (k := 3) (σ' := (21, [some (.ref 50), some (.ref 16)], [.int (I2 16 2), .ref 50], (iq_sh l, I2, J, X))) (fun _ => rfl) ?_
  refine iq_G_go (k := 1) (σ' := (24, [some (.ref 50), some (.ref 16)], [], (iq_sh l, (iq_upI I2 50 2 (I2 16 2)), J, X))) (fun _ => rfl) ?_
  obtain ⟨I3, eI3, h⟩ := ir_letG h
  rw [← eI3]
  clear eI3
  refine iq_G_go (k := 7) (σ' := (35, [some (.ref 50), some (.ref 16)], [.int (5 : Int32), .int (0 : Int32), .ref 51, .int (0 : Int32), .ref 17], (iq_sh l, I3, J, X))) (fun _ => rfl) ?_
  refine iq_G_go (k := 1) (σ' := (38, [some (.ref 50), some (.ref 16)], [], (iq_sh l, (iq_cpI I3 17 51 0 0 5), J, X))) (fun _ => rfl) ?_
  obtain ⟨I4, eI4, h⟩ := ir_letG h
  rw [← eI4]
  clear eI4
  refine iq_G_go (k := 7) (σ' := (49, [some (.ref 50), some (.ref 16)], [.int (5 : Int32), .int (0 : Int32), .ref 52, .int (0 : Int32), .ref 18], (iq_sh l, I4, J, X))) (fun _ => rfl) ?_
  refine iq_G_go (k := 1) (σ' := (52, [some (.ref 50), some (.ref 16)], [], (iq_sh l, (iq_cpI I4 18 52 0 0 5), J, X))) (fun _ => rfl) ?_
  obtain ⟨I5, eI5, h⟩ := ir_letG h
  rw [← eI5]
  clear eI5
  refine iq_G_go (k := 9) (σ' := (67, [some (.ref 50), some (.ref 16)], [.int (200 : Int32), .int (0 : Int32), .ref 58, .int (0 : Int32), .ref 24], (iq_sh l, I5, J, X))) (fun _ => rfl) ?_
  refine iq_G_go (k := 1) (σ' := (70, [some (.ref 50), some (.ref 16)], [], (iq_sh l, (iq_cpI I5 24 58 0 0 200), J, X))) (fun _ => rfl) ?_
  obtain ⟨I6, eI6, h⟩ := ir_letG h
  rw [← eI6]
  clear eI6
  refine iq_G_go (k := 7) (σ' := (81, [some (.ref 50), some (.ref 16)], [.int (3 : Int32), .int (0 : Int32), .ref 59, .int (0 : Int32), .ref 25], (iq_sh l, I6, J, X))) (fun _ => rfl) ?_
  refine iq_G_go (k := 1) (σ' := (84, [some (.ref 50), some (.ref 16)], [], (iq_sh l, (iq_cpI I6 25 59 0 0 3), J, X))) (fun _ => rfl) ?_
  obtain ⟨I7, eI7, h⟩ := ir_letG h
  rw [← eI7]
  clear eI7
  refine iq_G_go (k := 7) (σ' := (95, [some (.ref 50), some (.ref 16)], [.int (3 : Int32), .int (0 : Int32), .ref 60, .int (0 : Int32), .ref 26], (iq_sh l, I7, J, X))) (fun _ => rfl) ?_
  refine iq_G_go (k := 1) (σ' := (98, [some (.ref 50), some (.ref 16)], [], (iq_sh l, (iq_cpI I7 26 60 0 0 3), J, X))) (fun _ => rfl) ?_
  obtain ⟨I8, eI8, h⟩ := ir_letG h
  rw [← eI8]
  clear eI8
  refine iq_G_go (k := 4) (σ' := (106, [some (.ref 50), some (.ref 16)], [.ref 19, .ref 53], (iq_sh l, I8, J, X))) (fun _ => rfl) ?_
  obtain ⟨q9, hq9, h⟩ := iq_bnd h
  refine iq_G_call (σ' := (109, [some (.ref 50), some (.ref 16)], [], (iq_sh l, q9, J, X))) (fun _ => rfl) (zA_copyFrom_53_19_ok l  I8 J X hq9) rfl rfl ?_
  cases h
  exact iq_G_ret (fun _ => rfl)
set_option maxRecDepth 100000 in
theorem zH_nextSeed_ok (l : Nat)  (x0 : Int32) (I : iq_I) (J : iq_J) (X : iq_X) {q : Int32} (h : zH_nextSeed x0 I = some q) : iq_Cc 1 32 [.int x0] (iq_sh l, I, J, X) (.inl (some (.int q)), (iq_sh l, I, J, X)) := by
  refine iq_Cc_of (L := [some (.int x0)]) rfl rfl ?_
  unfold zH_nextSeed at h
  refine iq_G_go (k := 5) (σ' := (8, [some (.int x0)], [.int ((x0 * (1103515245 : Int32)) + (12345 : Int32))], (iq_sh l, I, J, X))) (fun _ => rfl) ?_
  cases h
  exact iq_G_ret (fun _ => rfl)
set_option maxRecDepth 100000 in
theorem zH_draw_ok (l : Nat)  (x0 : Int32) (x1 : Int32) (I : iq_I) (J : iq_J) (X : iq_X) {q : Int32} (h : zH_draw x0 x1 I = some q) : iq_Cc 1 33 [.int x0, .int x1] (iq_sh l, I, J, X) (.inl (some (.int q)), (iq_sh l, I, J, X)) := by
  refine iq_Cc_of (L := [some (.int x0), some (.int x1)]) rfl rfl ?_
  unfold zH_draw at h
  refine iq_G_go (k := 1) (σ' := (1, [some (.int x0), some (.int x1)], [.int x1], (iq_sh l, I, J, X))) (fun _ => rfl) ?_
  rcases iq_ite h with ⟨hc_, h⟩ | ⟨hc_, h⟩
  · refine iq_G_pos (c := 0 < x1) (σ1 := (8, [some (.int x0), some (.int x1)], [], (iq_sh l, I, J, X))) (fun _ => rfl) hc_ ?_
    refine iq_G_go (k := 6) (σ' := (17, [some (.int x0), some (.int x1)], [.int x1, .int ((ir_ushr x0 (16 : Int32)) &&& (32767 : Int32))], (iq_sh l, I, J, X))) (fun _ => rfl) ?_
    obtain ⟨hc_, h⟩ := ir_nti h
    refine iq_G_neg (c := x1 = 0) (σ1 := (18, [some (.int x0), some (.int x1)], [.int (((ir_ushr x0 (16 : Int32)) &&& (32767 : Int32)) - ((ir_ushr x0 (16 : Int32)) &&& (32767 : Int32)) / x1 * x1)], (iq_sh l, I, J, X))) (fun _ => rfl) hc_ ?_
    cases h
    exact iq_G_ret (fun _ => rfl)
  · refine iq_G_neg (c := 0 < x1) (σ1 := (4, [some (.int x0), some (.int x1)], [], (iq_sh l, I, J, X))) (fun _ => rfl) hc_ ?_
    refine iq_G_go (k := 2) (σ' := (18, [some (.int x0), some (.int x1)], [.int (0 : Int32)], (iq_sh l, I, J, X))) (fun _ => rfl) ?_
    cases h
    exact iq_G_ret (fun _ => rfl)
set_option maxRecDepth 100000 in
theorem zG_beginOf_50_ok (l : Nat)  (x1 : Int32) (I : iq_I) (J : iq_J) (X : iq_X) {q : Int32} (h : zG_beginOf_50 x1 I = some q) : iq_Cc 1 8 [.ref 50, .int x1] (iq_sh l, I, J, X) (.inl (some (.int q)), (iq_sh l, I, J, X)) := by
  refine iq_Cc_of (L := [some (.ref 50), some (.int x1)]) rfl rfl ?_
  unfold zG_beginOf_50 at h
  refine iq_G_go (k := 1) (σ' := (1, [some (.ref 50), some (.int x1)], [.int x1], (iq_sh l, I, J, X))) (fun _ => rfl) ?_
  rcases iq_ite h with ⟨hc_, h⟩ | ⟨hc_, h⟩
  · refine iq_G_pos (c := x1 < 0) (σ1 := (12, [some (.ref 50), some (.int x1)], [], (iq_sh l, I, J, X))) (fun _ => rfl) hc_ ?_
    refine iq_G_go (k := 2) (σ' := (22, [some (.ref 50), some (.int x1)], [.int (-1 : Int32)], (iq_sh l, I, J, X))) (fun _ => rfl) ?_
    cases h
    exact iq_G_ret (fun _ => rfl)
  · refine iq_G_neg (c := x1 < 0) (σ1 := (4, [some (.ref 50), some (.int x1)], [], (iq_sh l, I, J, X))) (fun _ => rfl) hc_ ?_
    refine iq_G_go (k := 3) (σ' := (9, [some (.ref 50), some (.int x1)], [.int (I 50 0), .int x1], (iq_sh l, I, J, X))) (fun _ => rfl) ?_
    rcases iq_ite h with ⟨hc_, h⟩ | ⟨hc_, h⟩
    · refine iq_G_pos (c := x1 < (I 50 0)) (σ1 := (16, [some (.ref 50), some (.int x1)], [], (iq_sh l, I, J, X))) (fun _ => rfl) hc_ ?_
      refine iq_G_go (k := 3) (σ' := (21, [some (.ref 50), some (.int x1)], [.int x1, .ref 51], (iq_sh l, I, J, X))) (fun _ => rfl) ?_
      obtain ⟨hc_, h⟩ := iq_itn h
      refine iq_G_pos (c := iq_in x1 5) (σ1 := (22, [some (.ref 50), some (.int x1)], [.int (I 51 (Int32.toNatClampNeg x1))], (iq_sh l, I, J, X))) (fun _ => rfl) hc_ ?_
      cases h
      exact iq_G_ret (fun _ => rfl)
    · refine iq_G_neg (c := x1 < (I 50 0)) (σ1 := (12, [some (.ref 50), some (.int x1)], [], (iq_sh l, I, J, X))) (fun _ => rfl) hc_ ?_
      refine iq_G_go (k := 2) (σ' := (22, [some (.ref 50), some (.int x1)], [.int (-1 : Int32)], (iq_sh l, I, J, X))) (fun _ => rfl) ?_
      cases h
      exact iq_G_ret (fun _ => rfl)
set_option maxRecDepth 100000 in
theorem zG_lengthOf_50_ok (l : Nat)  (x1 : Int32) (I : iq_I) (J : iq_J) (X : iq_X) {q : Int32} (h : zG_lengthOf_50 x1 I = some q) : iq_Cc 1 9 [.ref 50, .int x1] (iq_sh l, I, J, X) (.inl (some (.int q)), (iq_sh l, I, J, X)) := by
  refine iq_Cc_of (L := [some (.ref 50), some (.int x1)]) rfl rfl ?_
  unfold zG_lengthOf_50 at h
  refine iq_G_go (k := 1) (σ' := (1, [some (.ref 50), some (.int x1)], [.int x1], (iq_sh l, I, J, X))) (fun _ => rfl) ?_
  rcases iq_ite h with ⟨hc_, h⟩ | ⟨hc_, h⟩
  · refine iq_G_pos (c := x1 < 0) (σ1 := (12, [some (.ref 50), some (.int x1)], [], (iq_sh l, I, J, X))) (fun _ => rfl) hc_ ?_
    refine iq_G_go (k := 2) (σ' := (22, [some (.ref 50), some (.int x1)], [.int (0 : Int32)], (iq_sh l, I, J, X))) (fun _ => rfl) ?_
    cases h
    exact iq_G_ret (fun _ => rfl)
  · refine iq_G_neg (c := x1 < 0) (σ1 := (4, [some (.ref 50), some (.int x1)], [], (iq_sh l, I, J, X))) (fun _ => rfl) hc_ ?_
    refine iq_G_go (k := 3) (σ' := (9, [some (.ref 50), some (.int x1)], [.int (I 50 0), .int x1], (iq_sh l, I, J, X))) (fun _ => rfl) ?_
    rcases iq_ite h with ⟨hc_, h⟩ | ⟨hc_, h⟩
    · refine iq_G_pos (c := x1 < (I 50 0)) (σ1 := (16, [some (.ref 50), some (.int x1)], [], (iq_sh l, I, J, X))) (fun _ => rfl) hc_ ?_
      refine iq_G_go (k := 3) (σ' := (21, [some (.ref 50), some (.int x1)], [.int x1, .ref 52], (iq_sh l, I, J, X))) (fun _ => rfl) ?_
      obtain ⟨hc_, h⟩ := iq_itn h
      refine iq_G_pos (c := iq_in x1 5) (σ1 := (22, [some (.ref 50), some (.int x1)], [.int (I 52 (Int32.toNatClampNeg x1))], (iq_sh l, I, J, X))) (fun _ => rfl) hc_ ?_
      cases h
      exact iq_G_ret (fun _ => rfl)
    · refine iq_G_neg (c := x1 < (I 50 0)) (σ1 := (12, [some (.ref 50), some (.int x1)], [], (iq_sh l, I, J, X))) (fun _ => rfl) hc_ ?_
      refine iq_G_go (k := 2) (σ' := (22, [some (.ref 50), some (.int x1)], [.int (0 : Int32)], (iq_sh l, I, J, X))) (fun _ => rfl) ?_
      cases h
      exact iq_G_ret (fun _ => rfl)
set_option maxRecDepth 100000 in
theorem zG_wordAt_50_ok (l : Nat)  (x1 : Int32) (x2 : Int32) (I : iq_I) (J : iq_J) (X : iq_X) {q : Int32} (h : zG_wordAt_50 x1 x2 I = some q) : iq_Cc 1 10 [.ref 50, .int x1, .int x2] (iq_sh l, I, J, X) (.inl (some (.int q)), (iq_sh l, I, J, X)) := by
  refine iq_Cc_of (L := [some (.ref 50), some (.int x1), some (.int x2)]) rfl rfl ?_
  unfold zG_wordAt_50 at h
  refine iq_G_go (k := 1) (σ' := (1, [some (.ref 50), some (.int x1), some (.int x2)], [.int x1], (iq_sh l, I, J, X))) (fun _ => rfl) ?_
  rcases iq_ite h with ⟨hc_, h⟩ | ⟨hc_, h⟩
  · refine iq_G_pos (c := x1 < 0) (σ1 := (26, [some (.ref 50), some (.int x1), some (.int x2)], [], (iq_sh l, I, J, X))) (fun _ => rfl) hc_ ?_
    refine iq_G_go (k := 1) (σ' := (27, [some (.ref 50), some (.int x1), some (.int x2)], [.int (-1 : Int32)], (iq_sh l, I, J, X))) (fun _ => rfl) ?_
    cases h
    exact iq_G_ret (fun _ => rfl)
  · refine iq_G_neg (c := x1 < 0) (σ1 := (4, [some (.ref 50), some (.int x1), some (.int x2)], [], (iq_sh l, I, J, X))) (fun _ => rfl) hc_ ?_
    refine iq_G_go (k := 3) (σ' := (9, [some (.ref 50), some (.int x1), some (.int x2)], [.int (I 50 0), .int x1], (iq_sh l, I, J, X))) (fun _ => rfl) ?_
    rcases iq_ite h with ⟨hc_, h⟩ | ⟨hc_, h⟩
    · refine iq_G_pos (c := (I 50 0) ≤ x1) (σ1 := (26, [some (.ref 50), some (.int x1), some (.int x2)], [], (iq_sh l, I, J, X))) (fun _ => rfl) hc_ ?_
      refine iq_G_go (k := 1) (σ' := (27, [some (.ref 50), some (.int x1), some (.int x2)], [.int (-1 : Int32)], (iq_sh l, I, J, X))) (fun _ => rfl) ?_
      cases h
      exact iq_G_ret (fun _ => rfl)
    · refine iq_G_neg (c := (I 50 0) ≤ x1) (σ1 := (12, [some (.ref 50), some (.int x1), some (.int x2)], [], (iq_sh l, I, J, X))) (fun _ => rfl) hc_ ?_
      refine iq_G_go (k := 1) (σ' := (13, [some (.ref 50), some (.int x1), some (.int x2)], [.int x2], (iq_sh l, I, J, X))) (fun _ => rfl) ?_
      rcases iq_ite h with ⟨hc_, h⟩ | ⟨hc_, h⟩
      · refine iq_G_pos (c := x2 < 0) (σ1 := (26, [some (.ref 50), some (.int x1), some (.int x2)], [], (iq_sh l, I, J, X))) (fun _ => rfl) hc_ ?_
        refine iq_G_go (k := 1) (σ' := (27, [some (.ref 50), some (.int x1), some (.int x2)], [.int (-1 : Int32)], (iq_sh l, I, J, X))) (fun _ => rfl) ?_
        cases h
        exact iq_G_ret (fun _ => rfl)
      · refine iq_G_neg (c := x2 < 0) (σ1 := (16, [some (.ref 50), some (.int x1), some (.int x2)], [], (iq_sh l, I, J, X))) (fun _ => rfl) hc_ ?_
        refine iq_G_go (k := 4) (σ' := (22, [some (.ref 50), some (.int x1), some (.int x2)], [.int x1, .ref 52, .int x2], (iq_sh l, I, J, X))) (fun _ => rfl) ?_
        obtain ⟨hc_, h⟩ := iq_itn h
        refine iq_G_pos (c := iq_in x1 5) (σ1 := (23, [some (.ref 50), some (.int x1), some (.int x2)], [.int (I 52 (Int32.toNatClampNeg x1)), .int x2], (iq_sh l, I, J, X))) (fun _ => rfl) hc_ ?_
        rcases iq_ite h with ⟨hc_, h⟩ | ⟨hc_, h⟩
        · refine iq_G_pos (c := x2 < (I 52 (Int32.toNatClampNeg x1))) (σ1 := (28, [some (.ref 50), some (.int x1), some (.int x2)], [], (iq_sh l, I, J, X))) (fun _ => rfl) hc_ ?_
          refine iq_G_go (k := 7) (σ' := (38, [some (.ref 50), some (.int x1), some (.int x2)], [.int ((x1 * (40 : Int32)) + x2), .ref 58], (iq_sh l, I, J, X))) (fun _ => rfl) ?_
          obtain ⟨hc_, h⟩ := iq_itn h
          refine iq_G_pos (c := iq_in ((x1 * (40 : Int32)) + x2) 200) (σ1 := (39, [some (.ref 50), some (.int x1), some (.int x2)], [.int (I 58 (Int32.toNatClampNeg ((x1 * (40 : Int32)) + x2)))], (iq_sh l, I, J, X))) (fun _ => rfl) hc_ ?_
          cases h
          exact iq_G_ret (fun _ => rfl)
        · refine iq_G_neg (c := x2 < (I 52 (Int32.toNatClampNeg x1))) (σ1 := (26, [some (.ref 50), some (.int x1), some (.int x2)], [], (iq_sh l, I, J, X))) (fun _ => rfl) hc_ ?_
          refine iq_G_go (k := 1) (σ' := (27, [some (.ref 50), some (.int x1), some (.int x2)], [.int (-1 : Int32)], (iq_sh l, I, J, X))) (fun _ => rfl) ?_
          cases h
          exact iq_G_ret (fun _ => rfl)
set_option maxRecDepth 100000 in
theorem zU_stateFrom_4_50_l13_bok (l : Nat)  (x2 : Int32) (x4 : Int32) (x6 : Int32) (I : iq_I) (J : iq_J) (X : iq_X) (x5 : Int32) (x7 : Int32)  {q : (Int32 × Int32) ⊕ (Int32)} (h : zU_stateFrom_4_50_l13_b x2 x4 x6 I x5 x7 = some q) (r : iq_R × iq_M) (hc : ∀ v, q = .inl v → iq_Gg 1 52 (13, [some (.ref 4), some (.ref 50), some (.int x2), none, some (.int x4), some (.int v.1), some (.int x6), some (.int v.2)], [], (iq_sh l, I, J, X)) r) (hx : ∀ w, q = .inr w → iq_Gg 1 52 (54, [none, none, none, none, none, some (.int w), none, none], [], (iq_sh l, I, J, X)) r) : iq_Gg 1 52 (13, [some (.ref 4), some (.ref 50), some (.int x2), none, some (.int x4), some (.int x5), some (.int x6), some (.int x7)], [], (iq_sh l, I, J, X)) r := by
  unfold zU_stateFrom_4_50_l13_b at h
  refine iq_G_go (k := 2) (σ' := (17, [some (.ref 4), some (.ref 50), some (.int x2), none, some (.int x4), some (.int x5), some (.int x6), some (.int x7)], [.int x6, .int x7], (iq_sh l, I, J, X))) (fun _ => rfl) ?_
  rcases iq_ite h with ⟨hc_, h⟩ | ⟨hc_, h⟩
  · refine iq_G_pos (c := x6 ≤ x7) (σ1 := (54, [some (.ref 4), some (.ref 50), some (.int x2), none, some (.int x4), some (.int x5), some (.int x6), some (.int x7)], [], (iq_sh l, I, J, X))) (fun _ => rfl) hc_ ?_
    cases h
    exact iq_G_fg (L := [none, none, none, none, none, some (.int x5), none, none]) (And.intro rfl trivial) (hx x5 rfl)
  · refine iq_G_neg (c := x6 ≤ x7) (σ1 := (20, [some (.ref 4), some (.ref 50), some (.int x2), none, some (.int x4), some (.int x5), some (.int x6), some (.int x7)], [], (iq_sh l, I, J, X))) (fun _ => rfl) hc_ ?_
    refine iq_G_go (k := 2) (σ' := (23, [some (.ref 4), some (.ref 50), some (.int x2), none, some (.int x4), some (.int x5), some (.int x6), some (.int x7)], [.int (-1 : Int32), .int x5], (iq_sh l, I, J, X))) (fun _ => rfl) ?_
    rcases iq_ite h with ⟨hc_, h⟩ | ⟨hc_, h⟩
    · refine iq_G_pos (c := x5 = (-1 : Int32)) (σ1 := (54, [some (.ref 4), some (.ref 50), some (.int x2), none, some (.int x4), some (.int x5), some (.int x6), some (.int x7)], [], (iq_sh l, I, J, X))) (fun _ => rfl) hc_ ?_
      cases h
      exact iq_G_fg (L := [none, none, none, none, none, some (.int x5), none, none]) (And.intro rfl trivial) (hx x5 rfl)
    · refine iq_G_neg (c := x5 = (-1 : Int32)) (σ1 := (26, [some (.ref 4), some (.ref 50), some (.int x2), none, some (.int x4), some (.int x5), some (.int x6), some (.int x7)], [], (iq_sh l, I, J, X))) (fun _ => rfl) hc_ ?_
      refine iq_G_go (k := 2) (σ' := (30, [some (.ref 4), some (.ref 50), some (.int x2), none, some (.int x4), some (.int x5), some (.int x6), some (.int x7)], [.int x4, .int x7], (iq_sh l, I, J, X))) (fun _ => rfl) ?_
      rcases iq_ite h with ⟨hc_, h⟩ | ⟨hc_, h⟩
      · refine iq_G_pos (c := x7 = x4) (σ1 := (48, [some (.ref 4), some (.ref 50), some (.int x2), none, some (.int x4), some (.int x5), some (.int x6), some (.int x7)], [], (iq_sh l, I, J, X))) (fun _ => rfl) hc_ ?_
        refine iq_G_go (k := 2) (σ' := (13, [some (.ref 4), some (.ref 50), some (.int x2), none, some (.int x4), some (.int x5), some (.int x6), some (.int (x7 + (1 : Int32)))], [], (iq_sh l, I, J, X))) (fun _ => rfl) ?_
        cases h
        exact iq_G_fg (L := [some (.ref 4), some (.ref 50), some (.int x2), none, some (.int x4), some (.int x5), some (.int x6), some (.int (x7 + (1 : Int32)))]) (And.intro rfl (And.intro rfl (And.intro rfl (And.intro rfl (And.intro rfl (And.intro rfl (And.intro rfl trivial))))))) (hc (x5, (x7 + (1 : Int32))) rfl)
      · refine iq_G_neg (c := x7 = x4) (σ1 := (33, [some (.ref 4), some (.ref 50), some (.int x2), none, some (.int x4), some (.int x5), some (.int x6), some (.int x7)], [], (iq_sh l, I, J, X))) (fun _ => rfl) hc_ ?_
        refine iq_G_go (k := 5) (σ' := (40, [some (.ref 4), some (.ref 50), some (.int x2), none, some (.int x4), some (.int x5), some (.int x6), some (.int x7)], [.int x7, .int x2, .ref 50, .int x5, .ref 4], (iq_sh l, I, J, X))) (fun _ => rfl) ?_
        obtain ⟨q2, hq2, h⟩ := iq_bnd h
        refine iq_G_call (σ' := (43, [some (.ref 4), some (.ref 50), some (.int x2), none, some (.int x4), some (.int x5), some (.int x6), some (.int x7)], [.int q2, .int x5, .ref 4], (iq_sh l, I, J, X))) (fun _ => rfl) (zG_wordAt_50_ok l x2 x7 I J X hq2) rfl rfl ?_
        obtain ⟨q3, hq3, h⟩ := iq_bnd h
        refine iq_G_call (σ' := (46, [some (.ref 4), some (.ref 50), some (.int x2), none, some (.int x4), some (.int x5), some (.int x6), some (.int x7)], [.int q3], (iq_sh l, I, J, X))) (fun _ => rfl) (zU_leadsTo_4_ok l x5 q2 I J X hq3) rfl rfl ?_
        refine iq_G_go (k := 3) (σ' := (13, [some (.ref 4), some (.ref 50), some (.int x2), none, some (.int x4), some (.int q3), some (.int x6), some (.int (x7 + (1 : Int32)))], [], (iq_sh l, I, J, X))) (fun _ => rfl) ?_
        cases h
        exact iq_G_fg (L := [some (.ref 4), some (.ref 50), some (.int x2), none, some (.int x4), some (.int q3), some (.int x6), some (.int (x7 + (1 : Int32)))]) (And.intro rfl (And.intro rfl (And.intro rfl (And.intro rfl (And.intro rfl (And.intro rfl (And.intro rfl trivial))))))) (hc (q3, (x7 + (1 : Int32))) rfl)
set_option maxRecDepth 100000 in
theorem zU_stateFrom_4_50_l13_ok (l : Nat)  (x2 : Int32) (x4 : Int32) (x6 : Int32) (I : iq_I) (J : iq_J) (X : iq_X) {n : Nat} {v : Int32 × Int32} {w : Int32} (h : zU_stateFrom_4_50_l13 x2 x4 x6 I n v = some w) (r : iq_R × iq_M) (hq : iq_Gg 1 52 (54, [none, none, none, none, none, some (.int w), none, none], [], (iq_sh l, I, J, X)) r) : iq_Gg 1 52 (13, [some (.ref 4), some (.ref 50), some (.int x2), none, some (.int x4), some (.int v.1), some (.int x6), some (.int v.2)], [], (iq_sh l, I, J, X)) r :=
  iq_lp_ok (σ := fun v => (13, [some (.ref 4), some (.ref 50), some (.int x2), none, some (.int x4), some (.int v.1), some (.int x6), some (.int v.2)], [], (iq_sh l, I, J, X))) (Q := fun w r => iq_Gg 1 52 (54, [none, none, none, none, none, some (.int w), none, none], [], (iq_sh l, I, J, X)) r) (fun v q hv r h1 h2 => zU_stateFrom_4_50_l13_bok l x2 x4 x6 I J X v.1 v.2 hv r h1 h2) h r hq
set_option maxRecDepth 100000 in
theorem zU_stateFrom_4_50_ok (l : Nat)  (x2 : Int32) (x3 : Int32) (x4 : Int32) (I : iq_I) (J : iq_J) (X : iq_X) {q : Int32} (h : zU_stateFrom_4_50 x2 x3 x4 I = some q) : iq_Cc 2 52 [.ref 4, .ref 50, .int x2, .int x3, .int x4] (iq_sh l, I, J, X) (.inl (some (.int q)), (iq_sh l, I, J, X)) := by
  refine iq_Cc_of (L := [some (.ref 4), some (.ref 50), some (.int x2), some (.int x3), some (.int x4), none, none, none]) rfl rfl ?_
  unfold zU_stateFrom_4_50 at h
  refine iq_G_go (k := 4) (σ' := (5, [some (.ref 4), some (.ref 50), some (.int x2), some (.int x3), some (.int x4), some (.int x3), none, none], [.int x2, .ref 50], (iq_sh l, I, J, X))) (fun _ => rfl) ?_
  obtain ⟨q1, hq1, h⟩ := iq_bnd h
  refine iq_G_call (σ' := (8, [some (.ref 4), some (.ref 50), some (.int x2), some (.int x3), some (.int x4), some (.int x3), none, none], [.int q1], (iq_sh l, I, J, X))) (fun _ => rfl) (zG_lengthOf_50_ok l x2 I J X hq1) rfl rfl ?_
  refine iq_G_go (k := 3) (σ' := (13, [some (.ref 4), some (.ref 50), some (.int x2), some (.int x3), some (.int x4), some (.int x3), some (.int q1), some (.int (0 : Int32))], [], (iq_sh l, I, J, X))) (fun _ => rfl) ?_
  obtain ⟨w4, hw4, h⟩ := iq_bnd h
  refine iq_G_fg (L := [some (.ref 4), some (.ref 50), some (.int x2), none, some (.int x4), some (.int x3), some (.int q1), some (.int (0 : Int32))]) (And.intro rfl (And.intro rfl (And.intro rfl (And.intro rfl (And.intro rfl (And.intro rfl (And.intro rfl trivial))))))) ?_
  refine zU_stateFrom_4_50_l13_ok l x2 x4 q1 I J X hw4 _ ?_
  show iq_Gg 1 52 (54, [none, none, none, none, none, some (.int w4), none, none], [], (iq_sh l, I, J, X)) _
  refine iq_G_go (k := 1) (σ' := (56, [none, none, none, none, none, some (.int w4), none, none], [.int w4], (iq_sh l, I, J, X))) (fun _ => rfl) ?_
  cases h
  exact iq_G_ret (fun _ => rfl)
set_option maxRecDepth 100000 in
theorem zU_stateOf_4_50_ok (l : Nat)  (x2 : Int32) (I : iq_I) (J : iq_J) (X : iq_X) {q : Int32} (h : zU_stateOf_4_50 x2 I = some q) : iq_Cc 3 51 [.ref 4, .ref 50, .int x2] (iq_sh l, I, J, X) (.inl (some (.int q)), (iq_sh l, I, J, X)) := by
  refine iq_Cc_of (L := [some (.ref 4), some (.ref 50), some (.int x2)]) rfl rfl ?_
  unfold zU_stateOf_4_50 at h
  refine iq_G_go (k := 5) (σ' := (5, [some (.ref 4), some (.ref 50), some (.int x2)], [.int x2, .ref 50, .int x2, .ref 50, .ref 4], (iq_sh l, I, J, X))) (fun _ => rfl) ?_
  obtain ⟨q1, hq1, h⟩ := iq_bnd h
  refine iq_G_call (σ' := (8, [some (.ref 4), some (.ref 50), some (.int x2)], [.int q1, .int x2, .ref 50, .ref 4], (iq_sh l, I, J, X))) (fun _ => rfl) (zG_beginOf_50_ok l x2 I J X hq1) rfl rfl ?_
  refine iq_G_go (k := 1) (σ' := (9, [some (.ref 4), some (.ref 50), some (.int x2)], [.int (-1 : Int32), .int q1, .int x2, .ref 50, .ref 4], (iq_sh l, I, J, X))) (fun _ => rfl) ?_
  obtain ⟨q2, hq2, h⟩ := iq_bnd h
  refine iq_G_call (σ' := (12, [some (.ref 4), some (.ref 50), some (.int x2)], [.int q2], (iq_sh l, I, J, X))) (fun _ => rfl) (zU_stateFrom_4_50_ok l x2 q1 (-1 : Int32) I J X hq2) rfl rfl ?_
  cases h
  exact iq_G_ret (fun _ => rfl)
set_option maxRecDepth 100000 in
theorem zH_isFree_69_50_ok (l : Nat)  (x2 : Int32) (x3 : Int32) (x4 : Int32) (I : iq_I) (J : iq_J) (X : iq_X) {q : Int32} (h : zH_isFree_69_50 x2 x3 x4 I = some q) : iq_Cc 3 21 [.ref 69, .ref 50, .int x2, .int x3, .int x4] (iq_sh l, I, J, X) (.inl (some (.int q)), (iq_sh l, I, J, X)) := by
  refine iq_Cc_of (L := [some (.ref 69), some (.ref 50), some (.int x2), some (.int x3), some (.int x4), none]) rfl rfl ?_
  unfold zH_isFree_69_50 at h
  refine iq_G_go (k := 4) (σ' := (7, [some (.ref 69), some (.ref 50), some (.int x2), some (.int x3), some (.int x4), none], [.int x4, .int x3, .ref 4], (iq_sh l, I, J, X))) (fun _ => rfl) ?_
  obtain ⟨q1, hq1, h⟩ := iq_bnd h
  refine iq_G_call (σ' := (10, [some (.ref 69), some (.ref 50), some (.int x2), some (.int x3), some (.int x4), none], [.int q1], (iq_sh l, I, J, X))) (fun _ => rfl) (zU_leadsTo_4_ok l x3 x4 I J X hq1) rfl rfl ?_
  refine iq_G_go (k := 3) (σ' := (15, [some (.ref 69), some (.ref 50), some (.int x2), some (.int x3), some (.int x4), some (.int q1)], [.int (-1 : Int32), .int q1], (iq_sh l, I, J, X))) (fun _ => rfl) ?_
  rcases iq_ite h with ⟨hc_, h⟩ | ⟨hc_, h⟩
  · refine iq_G_pos (c := q1 = (-1 : Int32)) (σ1 := (44, [some (.ref 69), some (.ref 50), some (.int x2), some (.int x3), some (.int x4), some (.int q1)], [], (iq_sh l, I, J, X))) (fun _ => rfl) hc_ ?_
    refine iq_G_go (k := 1) (σ' := (45, [some (.ref 69), some (.ref 50), some (.int x2), some (.int x3), some (.int x4), some (.int q1)], [.int (0 : Int32)], (iq_sh l, I, J, X))) (fun _ => rfl) ?_
    cases h
    exact iq_G_ret (fun _ => rfl)
  · refine iq_G_neg (c := q1 = (-1 : Int32)) (σ1 := (18, [some (.ref 69), some (.ref 50), some (.int x2), some (.int x3), some (.int x4), some (.int q1)], [], (iq_sh l, I, J, X))) (fun _ => rfl) hc_ ?_
    refine iq_G_go (k := 3) (σ' := (24, [some (.ref 69), some (.ref 50), some (.int x2), some (.int x3), some (.int x4), some (.int q1)], [.int q1, .ref 4], (iq_sh l, I, J, X))) (fun _ => rfl) ?_
    obtain ⟨q2, hq2, h⟩ := iq_bnd h
    refine iq_G_call (σ' := (27, [some (.ref 69), some (.ref 50), some (.int x2), some (.int x3), some (.int x4), some (.int q1)], [.int q2], (iq_sh l, I, J, X))) (fun _ => rfl) (zU_someFollows_ok l q1 I J X hq2) rfl rfl ?_
    rcases iq_ite h with ⟨hc_, h⟩ | ⟨hc_, h⟩
    · refine iq_G_pos (c := q2 = 0) (σ1 := (44, [some (.ref 69), some (.ref 50), some (.int x2), some (.int x3), some (.int x4), some (.int q1)], [], (iq_sh l, I, J, X))) (fun _ => rfl) hc_ ?_
      refine iq_G_go (k := 1) (σ' := (45, [some (.ref 69), some (.ref 50), some (.int x2), some (.int x3), some (.int x4), some (.int q1)], [.int (0 : Int32)], (iq_sh l, I, J, X))) (fun _ => rfl) ?_
      cases h
      exact iq_G_ret (fun _ => rfl)
    · refine iq_G_neg (c := q2 = 0) (σ1 := (30, [some (.ref 69), some (.ref 50), some (.int x2), some (.int x3), some (.int x4), some (.int q1)], [], (iq_sh l, I, J, X))) (fun _ => rfl) hc_ ?_
      refine iq_G_go (k := 2) (σ' := (32, [some (.ref 69), some (.ref 50), some (.int x2), some (.int x3), some (.int x4), some (.int q1)], [.int x2, .ref 50], (iq_sh l, I, J, X))) (fun _ => rfl) ?_
      obtain ⟨q3, hq3, h⟩ := iq_bnd h
      refine iq_G_call (σ' := (35, [some (.ref 69), some (.ref 50), some (.int x2), some (.int x3), some (.int x4), some (.int q1)], [.int q3], (iq_sh l, I, J, X))) (fun _ => rfl) (zG_lengthOf_50_ok l x2 I J X hq3) rfl rfl ?_
      refine iq_G_go (k := 1) (σ' := (37, [some (.ref 69), some (.ref 50), some (.int x2), some (.int x3), some (.int x4), some (.int q1)], [.int (40 : Int32), .int q3], (iq_sh l, I, J, X))) (fun _ => rfl) ?_
      rcases iq_ite h with ⟨hc_, h⟩ | ⟨hc_, h⟩
      · refine iq_G_pos (c := (40 : Int32) ≤ q3) (σ1 := (44, [some (.ref 69), some (.ref 50), some (.int x2), some (.int x3), some (.int x4), some (.int q1)], [], (iq_sh l, I, J, X))) (fun _ => rfl) hc_ ?_
        refine iq_G_go (k := 1) (σ' := (45, [some (.ref 69), some (.ref 50), some (.int x2), some (.int x3), some (.int x4), some (.int q1)], [.int (0 : Int32)], (iq_sh l, I, J, X))) (fun _ => rfl) ?_
        cases h
        exact iq_G_ret (fun _ => rfl)
      · refine iq_G_neg (c := (40 : Int32) ≤ q3) (σ1 := (40, [some (.ref 69), some (.ref 50), some (.int x2), some (.int x3), some (.int x4), some (.int q1)], [], (iq_sh l, I, J, X))) (fun _ => rfl) hc_ ?_
        refine iq_G_go (k := 2) (σ' := (45, [some (.ref 69), some (.ref 50), some (.int x2), some (.int x3), some (.int x4), some (.int q1)], [.int (1 : Int32)], (iq_sh l, I, J, X))) (fun _ => rfl) ?_
        cases h
        exact iq_G_ret (fun _ => rfl)
set_option maxRecDepth 100000 in
theorem zG_timesIn_50_l19_bok (l : Nat)  (x1 : Int32) (x2 : Int32) (I : iq_I) (J : iq_J) (X : iq_X) (x3 : Int32) (x4 : Int32)  {q : (Int32 × Int32) ⊕ (Int32)} (h : zG_timesIn_50_l19_b x1 x2 I x3 x4 = some q) (r : iq_R × iq_M) (hc : ∀ v, q = .inl v → iq_Gg 0 12 (19, [some (.ref 50), some (.int x1), some (.int x2), some (.int v.1), some (.int v.2)], [], (iq_sh l, I, J, X)) r) (hx : ∀ w, q = .inr w → iq_Gg 0 12 (55, [none, none, none, some (.int w), none], [], (iq_sh l, I, J, X)) r) : iq_Gg 0 12 (19, [some (.ref 50), some (.int x1), some (.int x2), some (.int x3), some (.int x4)], [], (iq_sh l, I, J, X)) r := by
  unfold zG_timesIn_50_l19_b at h
  refine iq_G_go (k := 4) (σ' := (26, [some (.ref 50), some (.int x1), some (.int x2), some (.int x3), some (.int x4)], [.int x1, .ref 52, .int x4], (iq_sh l, I, J, X))) (fun _ => rfl) ?_
  obtain ⟨hc_, h⟩ := iq_itn h
  refine iq_G_pos (c := iq_in x1 5) (σ1 := (27, [some (.ref 50), some (.int x1), some (.int x2), some (.int x3), some (.int x4)], [.int (I 52 (Int32.toNatClampNeg x1)), .int x4], (iq_sh l, I, J, X))) (fun _ => rfl) hc_ ?_
  rcases iq_ite h with ⟨hc_, h⟩ | ⟨hc_, h⟩
  · refine iq_G_pos (c := (I 52 (Int32.toNatClampNeg x1)) ≤ x4) (σ1 := (55, [some (.ref 50), some (.int x1), some (.int x2), some (.int x3), some (.int x4)], [], (iq_sh l, I, J, X))) (fun _ => rfl) hc_ ?_
    cases h
    exact iq_G_fg (L := [none, none, none, some (.int x3), none]) (And.intro rfl trivial) (hx x3 rfl)
  · refine iq_G_neg (c := (I 52 (Int32.toNatClampNeg x1)) ≤ x4) (σ1 := (30, [some (.ref 50), some (.int x1), some (.int x2), some (.int x3), some (.int x4)], [], (iq_sh l, I, J, X))) (fun _ => rfl) hc_ ?_
    refine iq_G_go (k := 7) (σ' := (41, [some (.ref 50), some (.int x1), some (.int x2), some (.int x3), some (.int x4)], [.int ((x1 * (40 : Int32)) + x4), .ref 58], (iq_sh l, I, J, X))) (fun _ => rfl) ?_
    obtain ⟨hc_, h⟩ := iq_itn h
    refine iq_G_pos (c := iq_in ((x1 * (40 : Int32)) + x4) 200) (σ1 := (42, [some (.ref 50), some (.int x1), some (.int x2), some (.int x3), some (.int x4)], [.int (I 58 (Int32.toNatClampNeg ((x1 * (40 : Int32)) + x4)))], (iq_sh l, I, J, X))) (fun _ => rfl) hc_ ?_
    refine iq_G_go (k := 1) (σ' := (43, [some (.ref 50), some (.int x1), some (.int x2), some (.int x3), some (.int x4)], [.int x2, .int (I 58 (Int32.toNatClampNeg ((x1 * (40 : Int32)) + x4)))], (iq_sh l, I, J, X))) (fun _ => rfl) ?_
    rcases iq_ite h with ⟨hc_, h⟩ | ⟨hc_, h⟩
    · refine iq_G_pos (c := ¬ (I 58 (Int32.toNatClampNeg ((x1 * (40 : Int32)) + x4))) = x2) (σ1 := (49, [some (.ref 50), some (.int x1), some (.int x2), some (.int x3), some (.int x4)], [], (iq_sh l, I, J, X))) (fun _ => rfl) hc_ ?_
      refine iq_G_go (k := 2) (σ' := (19, [some (.ref 50), some (.int x1), some (.int x2), some (.int x3), some (.int (x4 + (1 : Int32)))], [], (iq_sh l, I, J, X))) (fun _ => rfl) ?_
      cases h
      exact iq_G_fg (L := [some (.ref 50), some (.int x1), some (.int x2), some (.int x3), some (.int (x4 + (1 : Int32)))]) (And.intro rfl (And.intro rfl (And.intro rfl (And.intro rfl (And.intro rfl trivial))))) (hc (x3, (x4 + (1 : Int32))) rfl)
    · refine iq_G_neg (c := ¬ (I 58 (Int32.toNatClampNeg ((x1 * (40 : Int32)) + x4))) = x2) (σ1 := (46, [some (.ref 50), some (.int x1), some (.int x2), some (.int x3), some (.int x4)], [], (iq_sh l, I, J, X))) (fun _ => rfl) hc_ ?_
      refine iq_G_go (k := 3) (σ' := (19, [some (.ref 50), some (.int x1), some (.int x2), some (.int (x3 + (1 : Int32))), some (.int (x4 + (1 : Int32)))], [], (iq_sh l, I, J, X))) (fun _ => rfl) ?_
      cases h
      exact iq_G_fg (L := [some (.ref 50), some (.int x1), some (.int x2), some (.int (x3 + (1 : Int32))), some (.int (x4 + (1 : Int32)))]) (And.intro rfl (And.intro rfl (And.intro rfl (And.intro rfl (And.intro rfl trivial))))) (hc ((x3 + (1 : Int32)), (x4 + (1 : Int32))) rfl)
set_option maxRecDepth 100000 in
theorem zG_timesIn_50_l19_ok (l : Nat)  (x1 : Int32) (x2 : Int32) (I : iq_I) (J : iq_J) (X : iq_X) {n : Nat} {v : Int32 × Int32} {w : Int32} (h : zG_timesIn_50_l19 x1 x2 I n v = some w) (r : iq_R × iq_M) (hq : iq_Gg 0 12 (55, [none, none, none, some (.int w), none], [], (iq_sh l, I, J, X)) r) : iq_Gg 0 12 (19, [some (.ref 50), some (.int x1), some (.int x2), some (.int v.1), some (.int v.2)], [], (iq_sh l, I, J, X)) r :=
  iq_lp_ok (σ := fun v => (19, [some (.ref 50), some (.int x1), some (.int x2), some (.int v.1), some (.int v.2)], [], (iq_sh l, I, J, X))) (Q := fun w r => iq_Gg 0 12 (55, [none, none, none, some (.int w), none], [], (iq_sh l, I, J, X)) r) (fun v q hv r h1 h2 => zG_timesIn_50_l19_bok l x1 x2 I J X v.1 v.2 hv r h1 h2) h r hq
set_option maxRecDepth 100000 in
theorem zG_timesIn_50_ok (l : Nat)  (x1 : Int32) (x2 : Int32) (I : iq_I) (J : iq_J) (X : iq_X) {q : Int32} (h : zG_timesIn_50 x1 x2 I = some q) : iq_Cc 1 12 [.ref 50, .int x1, .int x2] (iq_sh l, I, J, X) (.inl (some (.int q)), (iq_sh l, I, J, X)) := by
  refine iq_Cc_of (L := [some (.ref 50), some (.int x1), some (.int x2), none, none]) rfl rfl ?_
  unfold zG_timesIn_50 at h
  refine iq_G_go (k := 1) (σ' := (1, [some (.ref 50), some (.int x1), some (.int x2), none, none], [.int x1], (iq_sh l, I, J, X))) (fun _ => rfl) ?_
  rcases iq_ite h with ⟨hc_, h⟩ | ⟨hc_, h⟩
  · refine iq_G_pos (c := x1 < 0) (σ1 := (12, [some (.ref 50), some (.int x1), some (.int x2), none, none], [], (iq_sh l, I, J, X))) (fun _ => rfl) hc_ ?_
    refine iq_G_go (k := 1) (σ' := (13, [some (.ref 50), some (.int x1), some (.int x2), none, none], [.int (0 : Int32)], (iq_sh l, I, J, X))) (fun _ => rfl) ?_
    cases h
    exact iq_G_ret (fun _ => rfl)
  · refine iq_G_neg (c := x1 < 0) (σ1 := (4, [some (.ref 50), some (.int x1), some (.int x2), none, none], [], (iq_sh l, I, J, X))) (fun _ => rfl) hc_ ?_
    refine iq_G_go (k := 3) (σ' := (9, [some (.ref 50), some (.int x1), some (.int x2), none, none], [.int (I 50 0), .int x1], (iq_sh l, I, J, X))) (fun _ => rfl) ?_
    rcases iq_ite h with ⟨hc_, h⟩ | ⟨hc_, h⟩
    · refine iq_G_pos (c := x1 < (I 50 0)) (σ1 := (14, [some (.ref 50), some (.int x1), some (.int x2), none, none], [], (iq_sh l, I, J, X))) (fun _ => rfl) hc_ ?_
      refine iq_G_go (k := 4) (σ' := (19, [some (.ref 50), some (.int x1), some (.int x2), some (.int (0 : Int32)), some (.int (0 : Int32))], [], (iq_sh l, I, J, X))) (fun _ => rfl) ?_
      obtain ⟨w1, hw1, h⟩ := iq_bnd h
      refine iq_G_fg (L := [some (.ref 50), some (.int x1), some (.int x2), some (.int (0 : Int32)), some (.int (0 : Int32))]) (And.intro rfl (And.intro rfl (And.intro rfl (And.intro rfl (And.intro rfl trivial))))) ?_
      refine zG_timesIn_50_l19_ok l x1 x2 I J X hw1 _ ?_
      show iq_Gg 0 12 (55, [none, none, none, some (.int w1), none], [], (iq_sh l, I, J, X)) _
      refine iq_G_go (k := 1) (σ' := (56, [none, none, none, some (.int w1), none], [.int w1], (iq_sh l, I, J, X))) (fun _ => rfl) ?_
      cases h
      exact iq_G_ret (fun _ => rfl)
    · refine iq_G_neg (c := x1 < (I 50 0)) (σ1 := (12, [some (.ref 50), some (.int x1), some (.int x2), none, none], [], (iq_sh l, I, J, X))) (fun _ => rfl) hc_ ?_
      refine iq_G_go (k := 1) (σ' := (13, [some (.ref 50), some (.int x1), some (.int x2), none, none], [.int (0 : Int32)], (iq_sh l, I, J, X))) (fun _ => rfl) ?_
      cases h
      exact iq_G_ret (fun _ => rfl)
set_option maxRecDepth 100000 in
theorem zH_fillValues_69_50_130_ok (l : Nat)  (s1 : Int32) (s2 : Int32) (I : iq_I) (J : iq_J) (X : iq_X)  {q : iq_I} (h : zH_fillValues_69_50_130 s1 s2 I = some q)  : iq_Gg 1 23 (130, [none, none, none, none, none, none, none, none], [.int s2, .int s1, .ref 70], (iq_sh l, I, J, X)) (.inl none, (iq_sh l, q, J, X)) := by
  unfold zH_fillValues_69_50_130 at h
  obtain ⟨hc_, h⟩ := iq_itn h
  refine iq_G_pos (c := iq_in s1 7) (σ1 := (131, [none, none, none, none, none, none, none, none], [], (iq_sh l, (iq_upI I 70 (Int32.toNatClampNeg s1) s2), J, X))) (fun _ => rfl) hc_ ?_
  obtain ⟨I12, eI12, h⟩ := ir_letG h
  rw [← eI12]
  clear eI12
  cases h
  exact iq_G_ret (fun _ => rfl)
set_option maxRecDepth 100000 in
theorem zH_fillValues_69_50_49_ok (l : Nat)  (x2 : Int32) (x3 : Int32) (x4 : Int32) (x5 : Int32) (s0 : Int32) (I : iq_I) (J : iq_J) (X : iq_X)  {q : iq_I} (h : zH_fillValues_69_50_49 x2 x3 x4 x5 s0 I = some q)  : iq_Gg 1 23 (49, [some (.ref 69), some (.ref 50), some (.int x2), some (.int x3), some (.int x4), some (.int x5), none, none], [.int s0], (iq_sh l, I, J, X)) (.inl none, (iq_sh l, q, J, X)) := by
  unfold zH_fillValues_69_50_49 at h
  refine iq_G_go (k := 7) (σ' := (61, [some (.ref 69), some (.ref 50), some (.int x2), some (.int x3), some (.int x4), some (.int x5), none, some (.int s0)], [.int x3, .ref 4, .int (0 : Int32), .ref 70], (iq_sh l, I, J, X))) (fun _ => rfl) ?_
  obtain ⟨q3, hq3, h⟩ := iq_bnd h
  refine iq_G_call (σ' := (64, [some (.ref 69), some (.ref 50), some (.int x2), some (.int x3), some (.int x4), some (.int x5), none, some (.int s0)], [.int q3, .int (0 : Int32), .ref 70], (iq_sh l, I, J, X))) (fun _ => rfl) (zU_kindOf_ok l x3 I J X hq3) rfl rfl ?_
  refine iq_G_go (k := 1) (σ' := (65, [some (.ref 69), some (.ref 50), some (.int x2), some (.int x3), some (.int x4), some (.int x5), none, some (.int s0)], [], (iq_sh l, (iq_upI I 70 0 q3), J, X))) (fun _ => rfl) ?_
  obtain ⟨I4, eI4, h⟩ := ir_letG h
  rw [← eI4]
  clear eI4
  refine iq_G_go (k := 6) (σ' := (75, [some (.ref 69), some (.ref 50), some (.int x2), some (.int x3), some (.int x4), some (.int x5), none, some (.int s0)], [.int x3, .ref 4, .int (1 : Int32), .ref 70], (iq_sh l, I4, J, X))) (fun _ => rfl) ?_
  obtain ⟨q5, hq5, h⟩ := iq_bnd h
  refine iq_G_call (σ' := (78, [some (.ref 69), some (.ref 50), some (.int x2), some (.int x3), some (.int x4), some (.int x5), none, some (.int s0)], [.int q5, .int (1 : Int32), .ref 70], (iq_sh l, I4, J, X))) (fun _ => rfl) (zU_lengthOf_4_ok l x3 I4 J X hq5) rfl rfl ?_
  refine iq_G_go (k := 1) (σ' := (79, [some (.ref 69), some (.ref 50), some (.int x2), some (.int x3), some (.int x4), some (.int x5), none, some (.int s0)], [], (iq_sh l, (iq_upI I4 70 1 q5), J, X))) (fun _ => rfl) ?_
  obtain ⟨I6, eI6, h⟩ := ir_letG h
  rw [← eI6]
  clear eI6
  refine iq_G_go (k := 4) (σ' := (85, [some (.ref 69), some (.ref 50), some (.int x2), some (.int x3), some (.int x4), some (.int x5), none, some (.int s0)], [.int x3, .int (2 : Int32), .ref 70], (iq_sh l, I6, J, X))) (fun _ => rfl) ?_
  refine iq_G_go (k := 1) (σ' := (86, [some (.ref 69), some (.ref 50), some (.int x2), some (.int x3), some (.int x4), some (.int x5), none, some (.int s0)], [], (iq_sh l, (iq_upI I6 70 2 x3), J, X))) (fun _ => rfl) ?_
  obtain ⟨I7, eI7, h⟩ := ir_letG h
  rw [← eI7]
  clear eI7
  refine iq_G_go (k := 4) (σ' := (93, [some (.ref 69), some (.ref 50), some (.int x2), some (.int x3), some (.int x4), some (.int x5), none, some (.int s0)], [.int x4, .int (3 : Int32), .ref 70], (iq_sh l, I7, J, X))) (fun _ => rfl) ?_
  refine iq_G_go (k := 1) (σ' := (94, [some (.ref 69), some (.ref 50), some (.int x2), some (.int x3), some (.int x4), some (.int x5), none, some (.int s0)], [], (iq_sh l, (iq_upI I7 70 3 x4), J, X))) (fun _ => rfl) ?_
  obtain ⟨I8, eI8, h⟩ := ir_letG h
  rw [← eI8]
  clear eI8
  refine iq_G_go (k := 4) (σ' := (101, [some (.ref 69), some (.ref 50), some (.int x2), some (.int x3), some (.int x4), some (.int x5), none, some (.int s0)], [.int x5, .int (4 : Int32), .ref 70], (iq_sh l, I8, J, X))) (fun _ => rfl) ?_
  refine iq_G_go (k := 1) (σ' := (102, [some (.ref 69), some (.ref 50), some (.int x2), some (.int x3), some (.int x4), some (.int x5), none, some (.int s0)], [], (iq_sh l, (iq_upI I8 70 4 x5), J, X))) (fun _ => rfl) ?_
  obtain ⟨I9, eI9, h⟩ := ir_letG h
  rw [← eI9]
  clear eI9
  refine iq_G_go (k := 6) (σ' := (110, [some (.ref 69), some (.ref 50), some (.int x2), some (.int x3), some (.int x4), some (.int x5), none, some (.int s0)], [.int x3, .int x2, .ref 50, .int (5 : Int32), .ref 70], (iq_sh l, I9, J, X))) (fun _ => rfl) ?_
  obtain ⟨q10, hq10, h⟩ := iq_bnd h
  refine iq_G_call (σ' := (113, [some (.ref 69), some (.ref 50), some (.int x2), some (.int x3), some (.int x4), some (.int x5), none, some (.int s0)], [.int q10, .int (5 : Int32), .ref 70], (iq_sh l, I9, J, X))) (fun _ => rfl) (zG_timesIn_50_ok l x2 x3 I9 J X hq10) rfl rfl ?_
  refine iq_G_go (k := 1) (σ' := (114, [some (.ref 69), some (.ref 50), some (.int x2), some (.int x3), some (.int x4), some (.int x5), none, some (.int s0)], [], (iq_sh l, (iq_upI I9 70 5 q10), J, X))) (fun _ => rfl) ?_
  obtain ⟨I11, eI11, h⟩ := ir_letG h
  rw [← eI11]
  clear eI11
  refine iq_G_go (k := 4) (σ' := (122, [some (.ref 69), some (.ref 50), some (.int x2), some (.int x3), some (.int x4), some (.int x5), none, some (.int s0)], [.int s0, .int (6 : Int32), .ref 70], (iq_sh l, I11, J, X))) (fun _ => rfl) ?_
  rcases iq_ite h with ⟨hc_, h⟩ | ⟨hc_, h⟩
  · refine iq_G_pos (c := s0 = 0) (σ1 := (129, [some (.ref 69), some (.ref 50), some (.int x2), some (.int x3), some (.int x4), some (.int x5), none, some (.int s0)], [.int (6 : Int32), .ref 70], (iq_sh l, I11, J, X))) (fun _ => rfl) hc_ ?_
    refine iq_G_go (k := 1) (σ' := (130, [some (.ref 69), some (.ref 50), some (.int x2), some (.int x3), some (.int x4), some (.int x5), none, some (.int s0)], [.int (0 : Int32), .int (6 : Int32), .ref 70], (iq_sh l, I11, J, X))) (fun _ => rfl) ?_
    exact iq_G_fg (L := [none, none, none, none, none, none, none, none]) trivial (zH_fillValues_69_50_130_ok l (6 : Int32) (0 : Int32) I11 J X  h )
  · refine iq_G_neg (c := s0 = 0) (σ1 := (125, [some (.ref 69), some (.ref 50), some (.int x2), some (.int x3), some (.int x4), some (.int x5), none, some (.int s0)], [.int (6 : Int32), .ref 70], (iq_sh l, I11, J, X))) (fun _ => rfl) hc_ ?_
    refine iq_G_go (k := 2) (σ' := (130, [some (.ref 69), some (.ref 50), some (.int x2), some (.int x3), some (.int x4), some (.int x5), none, some (.int s0)], [.int (1 : Int32), .int (6 : Int32), .ref 70], (iq_sh l, I11, J, X))) (fun _ => rfl) ?_
    exact iq_G_fg (L := [none, none, none, none, none, none, none, none]) trivial (zH_fillValues_69_50_130_ok l (6 : Int32) (1 : Int32) I11 J X  h )
set_option maxRecDepth 100000 in
theorem zH_fillValues_69_50_48_ok (l : Nat)  (x2 : Int32) (x3 : Int32) (x4 : Int32) (x5 : Int32) (I : iq_I) (J : iq_J) (X : iq_X)  {q : iq_I} (h : zH_fillValues_69_50_48 x2 x3 x4 x5 I = some q)  : iq_Gg 1 23 (48, [some (.ref 69), some (.ref 50), some (.int x2), some (.int x3), some (.int x4), some (.int x5), none, none], [], (iq_sh l, I, J, X)) (.inl none, (iq_sh l, q, J, X)) := by
  unfold zH_fillValues_69_50_48 at h
  refine iq_G_go (k := 1) (σ' := (49, [some (.ref 69), some (.ref 50), some (.int x2), some (.int x3), some (.int x4), some (.int x5), none, none], [.int (0 : Int32)], (iq_sh l, I, J, X))) (fun _ => rfl) ?_
  exact iq_G_fg (L := [some (.ref 69), some (.ref 50), some (.int x2), some (.int x3), some (.int x4), some (.int x5), none, none]) (And.intro rfl (And.intro rfl (And.intro rfl (And.intro rfl (And.intro rfl (And.intro rfl trivial)))))) (zH_fillValues_69_50_49_ok l x2 x3 x4 x5 (0 : Int32) I J X  h )
set_option maxRecDepth 100000 in
theorem zH_fillValues_69_50_ok (l : Nat)  (x2 : Int32) (x3 : Int32) (x4 : Int32) (I : iq_I) (J : iq_J) (X : iq_X) {q : iq_I} (h : zH_fillValues_69_50 x2 x3 x4 I = some q) : iq_Cc 2 23 [.ref 69, .ref 50, .int x2, .int x3, .int x4] (iq_sh l, I, J, X) (.inl none, (iq_sh l, q, J, X)) := by
  refine iq_Cc_of (L := [some (.ref 69), some (.ref 50), some (.int x2), some (.int x3), some (.int x4), none, none, none]) rfl rfl ?_
  unfold zH_fillValues_69_50 at h
  refine iq_G_go (k := 2) (σ' := (2, [some (.ref 69), some (.ref 50), some (.int x2), some (.int x3), some (.int x4), none, none, none], [.int x2, .ref 50], (iq_sh l, I, J, X))) (fun _ => rfl) ?_
  obtain ⟨q1, hq1, h⟩ := iq_bnd h
  refine iq_G_call (σ' := (5, [some (.ref 69), some (.ref 50), some (.int x2), some (.int x3), some (.int x4), none, none, none], [.int q1], (iq_sh l, I, J, X))) (fun _ => rfl) (zG_lengthOf_50_ok l x2 I J X hq1) rfl rfl ?_
  refine iq_G_go (k := 6) (σ' := (13, [some (.ref 69), some (.ref 50), some (.int x2), some (.int x3), some (.int x4), some (.int q1), none, none], [.int (q1 - (1 : Int32)), .int x2, .ref 50], (iq_sh l, I, J, X))) (fun _ => rfl) ?_
  obtain ⟨q2, hq2, h⟩ := iq_bnd h
  refine iq_G_call (σ' := (16, [some (.ref 69), some (.ref 50), some (.int x2), some (.int x3), some (.int x4), some (.int q1), none, none], [.int q2], (iq_sh l, I, J, X))) (fun _ => rfl) (zG_wordAt_50_ok l x2 (q1 - (1 : Int32)) I J X hq2) rfl rfl ?_
  refine iq_G_go (k := 3) (σ' := (21, [some (.ref 69), some (.ref 50), some (.int x2), some (.int x3), some (.int x4), some (.int q1), some (.int q2), none], [.int (-1 : Int32), .int q2], (iq_sh l, I, J, X))) (fun _ => rfl) ?_
  rcases iq_ite h with ⟨hc_, h⟩ | ⟨hc_, h⟩
  · refine iq_G_pos (c := q2 = (-1 : Int32)) (σ1 := (48, [some (.ref 69), some (.ref 50), some (.int x2), some (.int x3), some (.int x4), some (.int q1), some (.int q2), none], [], (iq_sh l, I, J, X))) (fun _ => rfl) hc_ ?_
    exact iq_G_fg (L := [some (.ref 69), some (.ref 50), some (.int x2), some (.int x3), some (.int x4), some (.int q1), none, none]) (And.intro rfl (And.intro rfl (And.intro rfl (And.intro rfl (And.intro rfl (And.intro rfl trivial)))))) (zH_fillValues_69_50_48_ok l x2 x3 x4 q1 I J X  h )
  · refine iq_G_neg (c := q2 = (-1 : Int32)) (σ1 := (24, [some (.ref 69), some (.ref 50), some (.int x2), some (.int x3), some (.int x4), some (.int q1), some (.int q2), none], [], (iq_sh l, I, J, X))) (fun _ => rfl) hc_ ?_
    refine iq_G_go (k := 3) (σ' := (30, [some (.ref 69), some (.ref 50), some (.int x2), some (.int x3), some (.int x4), some (.int q1), some (.int q2), none], [.int q2, .ref 4], (iq_sh l, I, J, X))) (fun _ => rfl) ?_
    obtain ⟨q13, hq13, h⟩ := iq_bnd h
    refine iq_G_call (σ' := (33, [some (.ref 69), some (.ref 50), some (.int x2), some (.int x3), some (.int x4), some (.int q1), some (.int q2), none], [.int q13], (iq_sh l, I, J, X))) (fun _ => rfl) (zU_lastLetter_ok l q2 I J X hq13) rfl rfl ?_
    refine iq_G_go (k := 3) (σ' := (38, [some (.ref 69), some (.ref 50), some (.int x2), some (.int x3), some (.int x4), some (.int q1), some (.int q2), none], [.int x3, .ref 4, .int q13], (iq_sh l, I, J, X))) (fun _ => rfl) ?_
    obtain ⟨q14, hq14, h⟩ := iq_bnd h
    refine iq_G_call (σ' := (41, [some (.ref 69), some (.ref 50), some (.int x2), some (.int x3), some (.int x4), some (.int q1), some (.int q2), none], [.int q14, .int q13], (iq_sh l, I, J, X))) (fun _ => rfl) (zU_lastLetter_ok l x3 I J X hq14) rfl rfl ?_
    rcases iq_ite h with ⟨hc_, h⟩ | ⟨hc_, h⟩
    · refine iq_G_pos (c := ¬ q13 = q14) (σ1 := (48, [some (.ref 69), some (.ref 50), some (.int x2), some (.int x3), some (.int x4), some (.int q1), some (.int q2), none], [], (iq_sh l, I, J, X))) (fun _ => rfl) hc_ ?_
      exact iq_G_fg (L := [some (.ref 69), some (.ref 50), some (.int x2), some (.int x3), some (.int x4), some (.int q1), none, none]) (And.intro rfl (And.intro rfl (And.intro rfl (And.intro rfl (And.intro rfl (And.intro rfl trivial)))))) (zH_fillValues_69_50_48_ok l x2 x3 x4 q1 I J X  h )
    · refine iq_G_neg (c := ¬ q13 = q14) (σ1 := (44, [some (.ref 69), some (.ref 50), some (.int x2), some (.int x3), some (.int x4), some (.int q1), some (.int q2), none], [], (iq_sh l, I, J, X))) (fun _ => rfl) hc_ ?_
      refine iq_G_go (k := 2) (σ' := (49, [some (.ref 69), some (.ref 50), some (.int x2), some (.int x3), some (.int x4), some (.int q1), some (.int q2), none], [.int (1 : Int32)], (iq_sh l, I, J, X))) (fun _ => rfl) ?_
      exact iq_G_fg (L := [some (.ref 69), some (.ref 50), some (.int x2), some (.int x3), some (.int x4), some (.int q1), none, none]) (And.intro rfl (And.intro rfl (And.intro rfl (And.intro rfl (And.intro rfl (And.intro rfl trivial)))))) (zH_fillValues_69_50_49_ok l x2 x3 x4 q1 (1 : Int32) I J X  h )
set_option maxRecDepth 100000 in
theorem zH_isLawful_69_50_ok (l : Nat)  (x2 : Int32) (x3 : Int32) (x4 : Int32) (I : iq_I) (J : iq_J) (X : iq_X) {q : Int32 × iq_I} (h : zH_isLawful_69_50 x2 x3 x4 I = some q) : iq_Cc 3 22 [.ref 69, .ref 50, .int x2, .int x3, .int x4] (iq_sh l, I, J, X) (.inl (some (.int q.1)), (iq_sh l, q.2, J, X)) := by
  refine iq_Cc_of (L := [some (.ref 69), some (.ref 50), some (.int x2), some (.int x3), some (.int x4)]) rfl rfl ?_
  unfold zH_isLawful_69_50 at h
  refine iq_G_go (k := 4) (σ' := (10, [some (.ref 69), some (.ref 50), some (.int x2), some (.int x3), some (.int x4)], [.int (I 8 1)], (iq_sh l, I, J, X))) (fun _ => rfl) ?_
  rcases iq_ite h with ⟨hc_, h⟩ | ⟨hc_, h⟩
  · refine iq_G_pos (c := ¬ (I 8 1) = 0) (σ1 := (15, [some (.ref 69), some (.ref 50), some (.int x2), some (.int x3), some (.int x4)], [], (iq_sh l, I, J, X))) (fun _ => rfl) hc_ ?_
    refine iq_G_go (k := 5) (σ' := (21, [some (.ref 69), some (.ref 50), some (.int x2), some (.int x3), some (.int x4)], [.int x4, .int x3, .int x2, .ref 50, .ref 69], (iq_sh l, I, J, X))) (fun _ => rfl) ?_
    obtain ⟨q1, hq1, h⟩ := iq_bnd h
    refine iq_G_call (σ' := (24, [some (.ref 69), some (.ref 50), some (.int x2), some (.int x3), some (.int x4)], [], (iq_sh l, q1, J, X))) (fun _ => rfl) (zH_fillValues_69_50_ok l x2 x3 x4 I J X hq1) rfl rfl ?_
    refine iq_G_go (k := 6) (σ' := (36, [some (.ref 69), some (.ref 50), some (.int x2), some (.int x3), some (.int x4)], [.ref 70, .int (4 : Int32), .ref 8], (iq_sh l, q1, J, X))) (fun _ => rfl) ?_
    obtain ⟨q2, hq2, h⟩ := iq_bnd h
    refine iq_G_call (σ' := (39, [some (.ref 69), some (.ref 50), some (.int x2), some (.int x3), some (.int x4)], [.int q2.1], (iq_sh l, q2.2, J, X))) (fun _ => rfl) (zE_give_ok l (4 : Int32) q1 J X hq2) rfl rfl ?_
    rcases iq_ite h with ⟨hc_, h⟩ | ⟨hc_, h⟩
    · refine iq_G_pos (c := q2.1 = 0) (σ1 := (46, [some (.ref 69), some (.ref 50), some (.int x2), some (.int x3), some (.int x4)], [], (iq_sh l, q2.2, J, X))) (fun _ => rfl) hc_ ?_
      refine iq_G_go (k := 1) (σ' := (47, [some (.ref 69), some (.ref 50), some (.int x2), some (.int x3), some (.int x4)], [.int (0 : Int32)], (iq_sh l, q2.2, J, X))) (fun _ => rfl) ?_
      cases h
      exact iq_G_ret (fun _ => rfl)
    · refine iq_G_neg (c := q2.1 = 0) (σ1 := (42, [some (.ref 69), some (.ref 50), some (.int x2), some (.int x3), some (.int x4)], [], (iq_sh l, q2.2, J, X))) (fun _ => rfl) hc_ ?_
      refine iq_G_go (k := 2) (σ' := (47, [some (.ref 69), some (.ref 50), some (.int x2), some (.int x3), some (.int x4)], [.int (1 : Int32)], (iq_sh l, q2.2, J, X))) (fun _ => rfl) ?_
      cases h
      exact iq_G_ret (fun _ => rfl)
  · refine iq_G_neg (c := ¬ (I 8 1) = 0) (σ1 := (13, [some (.ref 69), some (.ref 50), some (.int x2), some (.int x3), some (.int x4)], [], (iq_sh l, I, J, X))) (fun _ => rfl) hc_ ?_
    refine iq_G_go (k := 1) (σ' := (14, [some (.ref 69), some (.ref 50), some (.int x2), some (.int x3), some (.int x4)], [.int (1 : Int32)], (iq_sh l, I, J, X))) (fun _ => rfl) ?_
    cases h
    exact iq_G_ret (fun _ => rfl)

