/-! ===== the abstract machine does the same (printed by wip/whole/emitall.py, split.py) ===== -/
set_option maxRecDepth 100000 in
theorem zP_waysByOneMore_l5_bok (l : Nat)  (x1 : Int32) (I : iq_I) (J : iq_J) (X : iq_X) (y2 : Int64) (x4 : Int32)  {q : (Int64 × Int32) ⊕ (Int64)} (h : zP_waysByOneMore_l5_b x1 I J y2 x4 = some q) (r : iq_R × iq_M) (hc : ∀ v, q = .inl v → iq_Gg 1 67 (5, [some (.ref 63), some (.int x1), some (.long v.1), none, some (.int v.2), none], [], (iq_sh l, I, J, X)) r) (hx : ∀ w, q = .inr w → iq_Gg 1 67 (64, [none, none, some (.long w), none, none, none], [], (iq_sh l, I, J, X)) r) : iq_Gg 1 67 (5, [some (.ref 63), some (.int x1), some (.long y2), none, some (.int x4), none], [], (iq_sh l, I, J, X)) r := by
  unfold zP_waysByOneMore_l5_b at h
  refine iq_G_go (k := 2) (σ' := (9, [some (.ref 63), some (.int x1), some (.long y2), none, some (.int x4), none], [.int (8 : Int32), .int x4], (iq_sh l, I, J, X))) (fun _ => rfl) ?_
  rcases iq_ite h with ⟨hc_, h⟩ | ⟨hc_, h⟩
  · refine iq_G_pos (c := (8 : Int32) ≤ x4) (σ1 := (64, [some (.ref 63), some (.int x1), some (.long y2), none, some (.int x4), none], [], (iq_sh l, I, J, X))) (fun _ => rfl) hc_ ?_
    cases h
    exact iq_G_fg (L := [none, none, some (.long y2), none, none, none]) (And.intro rfl trivial) (hx y2 rfl)
  · refine iq_G_neg (c := (8 : Int32) ≤ x4) (σ1 := (12, [some (.ref 63), some (.int x1), some (.long y2), none, some (.int x4), none], [], (iq_sh l, I, J, X))) (fun _ => rfl) hc_ ?_
    refine iq_G_go (k := 4) (σ' := (19, [some (.ref 63), some (.int x1), some (.long y2), none, some (.int x4), none], [.int x4, .int x1, .ref 4], (iq_sh l, I, J, X))) (fun _ => rfl) ?_
    obtain ⟨q1, hq1, h⟩ := iq_bnd h
    refine iq_G_call (σ' := (22, [some (.ref 63), some (.int x1), some (.long y2), none, some (.int x4), none], [.int q1], (iq_sh l, I, J, X))) (fun _ => rfl) (zU_leadsBy_4_ok l x1 x4 I J X hq1) rfl rfl ?_
    refine iq_G_go (k := 2) (σ' := (26, [some (.ref 63), some (.int x1), some (.long y2), none, some (.int x4), some (.int q1)], [.int q1], (iq_sh l, I, J, X))) (fun _ => rfl) ?_
    rcases iq_ite h with ⟨hc_, h⟩ | ⟨hc_, h⟩
    · refine iq_G_pos (c := q1 < 0) (σ1 := (58, [some (.ref 63), some (.int x1), some (.long y2), none, some (.int x4), some (.int q1)], [], (iq_sh l, I, J, X))) (fun _ => rfl) hc_ ?_
      refine iq_G_go (k := 2) (σ' := (5, [some (.ref 63), some (.int x1), some (.long y2), none, some (.int (x4 + (1 : Int32))), some (.int q1)], [], (iq_sh l, I, J, X))) (fun _ => rfl) ?_
      cases h
      exact iq_G_fg (L := [some (.ref 63), some (.int x1), some (.long y2), none, some (.int (x4 + (1 : Int32))), none]) (And.intro rfl (And.intro rfl (And.intro rfl (And.intro rfl trivial)))) (hc (y2, (x4 + (1 : Int32))) rfl)
    · refine iq_G_neg (c := q1 < 0) (σ1 := (29, [some (.ref 63), some (.int x1), some (.long y2), none, some (.int x4), some (.int q1)], [], (iq_sh l, I, J, X))) (fun _ => rfl) hc_ ?_
      refine iq_G_go (k := 2) (σ' := (33, [some (.ref 63), some (.int x1), some (.long y2), none, some (.int x4), some (.int q1)], [.int (10 : Int32), .int q1], (iq_sh l, I, J, X))) (fun _ => rfl) ?_
      rcases iq_ite h with ⟨hc_, h⟩ | ⟨hc_, h⟩
      · refine iq_G_pos (c := (10 : Int32) ≤ q1) (σ1 := (58, [some (.ref 63), some (.int x1), some (.long y2), none, some (.int x4), some (.int q1)], [], (iq_sh l, I, J, X))) (fun _ => rfl) hc_ ?_
        refine iq_G_go (k := 2) (σ' := (5, [some (.ref 63), some (.int x1), some (.long y2), none, some (.int (x4 + (1 : Int32))), some (.int q1)], [], (iq_sh l, I, J, X))) (fun _ => rfl) ?_
        cases h
        exact iq_G_fg (L := [some (.ref 63), some (.int x1), some (.long y2), none, some (.int (x4 + (1 : Int32))), none]) (And.intro rfl (And.intro rfl (And.intro rfl (And.intro rfl trivial)))) (hc (y2, (x4 + (1 : Int32))) rfl)
      · refine iq_G_neg (c := (10 : Int32) ≤ q1) (σ1 := (36, [some (.ref 63), some (.int x1), some (.long y2), none, some (.int x4), some (.int q1)], [], (iq_sh l, I, J, X))) (fun _ => rfl) hc_ ?_
        refine iq_G_go (k := 5) (σ' := (46, [some (.ref 63), some (.int x1), some (.long y2), none, some (.int x4), some (.int q1)], [.int x4, .ref 7, .long y2], (iq_sh l, I, J, X))) (fun _ => rfl) ?_
        obtain ⟨hc_, h⟩ := iq_itn h
        refine iq_G_pos (c := iq_in x4 8) (σ1 := (47, [some (.ref 63), some (.int x1), some (.long y2), none, some (.int x4), some (.int q1)], [.int (I 7 (Int32.toNatClampNeg x4)), .long y2], (iq_sh l, I, J, X))) (fun _ => rfl) hc_ ?_
        refine iq_G_go (k := 4) (σ' := (54, [some (.ref 63), some (.int x1), some (.long y2), none, some (.int x4), some (.int q1)], [.int q1, .ref 67, .long (Int32.toInt64 (I 7 (Int32.toNatClampNeg x4))), .long y2], (iq_sh l, I, J, X))) (fun _ => rfl) ?_
        obtain ⟨hc_, h⟩ := iq_itn h
        refine iq_G_pos (c := iq_in q1 10) (σ1 := (55, [some (.ref 63), some (.int x1), some (.long y2), none, some (.int x4), some (.int q1)], [.long (J 67 (Int32.toNatClampNeg q1)), .long (Int32.toInt64 (I 7 (Int32.toNatClampNeg x4))), .long y2], (iq_sh l, I, J, X))) (fun _ => rfl) hc_ ?_
        refine iq_G_go (k := 5) (σ' := (5, [some (.ref 63), some (.int x1), some (.long (y2 + ((Int32.toInt64 (I 7 (Int32.toNatClampNeg x4))) * (J 67 (Int32.toNatClampNeg q1))))), none, some (.int (x4 + (1 : Int32))), some (.int q1)], [], (iq_sh l, I, J, X))) (fun _ => rfl) ?_
        cases h
        exact iq_G_fg (L := [some (.ref 63), some (.int x1), some (.long (y2 + ((Int32.toInt64 (I 7 (Int32.toNatClampNeg x4))) * (J 67 (Int32.toNatClampNeg q1))))), none, some (.int (x4 + (1 : Int32))), none]) (And.intro rfl (And.intro rfl (And.intro rfl (And.intro rfl trivial)))) (hc ((y2 + ((Int32.toInt64 (I 7 (Int32.toNatClampNeg x4))) * (J 67 (Int32.toNatClampNeg q1)))), (x4 + (1 : Int32))) rfl)
set_option maxRecDepth 100000 in
theorem zP_waysByOneMore_l5_ok (l : Nat)  (x1 : Int32) (I : iq_I) (J : iq_J) (X : iq_X) {n : Nat} {v : Int64 × Int32} {w : Int64} (h : zP_waysByOneMore_l5 x1 I J n v = some w) (r : iq_R × iq_M) (hq : iq_Gg 1 67 (64, [none, none, some (.long w), none, none, none], [], (iq_sh l, I, J, X)) r) : iq_Gg 1 67 (5, [some (.ref 63), some (.int x1), some (.long v.1), none, some (.int v.2), none], [], (iq_sh l, I, J, X)) r :=
  iq_lp_ok (σ := fun v => (5, [some (.ref 63), some (.int x1), some (.long v.1), none, some (.int v.2), none], [], (iq_sh l, I, J, X))) (Q := fun w r => iq_Gg 1 67 (64, [none, none, some (.long w), none, none, none], [], (iq_sh l, I, J, X)) r) (fun v q hv r h1 h2 => zP_waysByOneMore_l5_bok l x1 I J X v.1 v.2 hv r h1 h2) h r hq
set_option maxRecDepth 100000 in
theorem zP_waysByOneMore_ok (l : Nat)  (x1 : Int32) (I : iq_I) (J : iq_J) (X : iq_X) {q : Int64} (h : zP_waysByOneMore x1 I J = some q) : iq_Cc 2 67 [.ref 63, .int x1] (iq_sh l, I, J, X) (.inl (some (.long q)), (iq_sh l, I, J, X)) := by
  refine iq_Cc_of (L := [some (.ref 63), some (.int x1), none, none, none, none]) rfl rfl ?_
  unfold zP_waysByOneMore at h
  refine iq_G_go (k := 4) (σ' := (5, [some (.ref 63), some (.int x1), some (.long (0 : Int64)), none, some (.int (0 : Int32)), none], [], (iq_sh l, I, J, X))) (fun _ => rfl) ?_
  obtain ⟨w2, hw2, h⟩ := iq_bnd h
  refine iq_G_fg (L := [some (.ref 63), some (.int x1), some (.long (0 : Int64)), none, some (.int (0 : Int32)), none]) (And.intro rfl (And.intro rfl (And.intro rfl (And.intro rfl trivial)))) ?_
  refine zP_waysByOneMore_l5_ok l x1 I J X hw2 _ ?_
  show iq_Gg 1 67 (64, [none, none, some (.long w2), none, none, none], [], (iq_sh l, I, J, X)) _
  refine iq_G_go (k := 1) (σ' := (65, [none, none, some (.long w2), none, none, none], [.long w2], (iq_sh l, I, J, X))) (fun _ => rfl) ?_
  cases h
  exact iq_G_ret (fun _ => rfl)
set_option maxRecDepth 100000 in
theorem zP_countWays_45_ok (l : Nat)  (x1 : Int32) (x2 : Int32) (x3 : Int32) (x4 : Int32) (s1 : Int32) (s2 : Int64) (I : iq_I) (J : iq_J) (X : iq_X)  {q : (Int32 × iq_J) ⊕ (iq_J)} (h : zP_countWays_45 x1 x2 x3 x4 s1 s2 I J = some q) (r : iq_R × iq_M) (hc : ∀ v, q = .inl v → iq_Gg 2 66 (3, [some (.ref 63), some (.int x1), some (.int x2), some (.int x3), some (.int v.1), none], [], (iq_sh l, I, v.2, X)) r) (hx : ∀ w, q = .inr w → iq_Gg 2 66 (52, [some (.ref 63), some (.int x1), some (.int x2), none, none, none], [], (iq_sh l, I, w, X)) r) : iq_Gg 2 66 (45, [some (.ref 63), some (.int x1), some (.int x2), some (.int x3), some (.int x4), none], [.long s2, .int s1, .ref 67], (iq_sh l, I, J, X)) r := by
  unfold zP_countWays_45 at h
  obtain ⟨hc_, h⟩ := iq_itn h
  refine iq_G_pos (c := iq_in s1 10) (σ1 := (46, [some (.ref 63), some (.int x1), some (.int x2), some (.int x3), some (.int x4), none], [], (iq_sh l, I, (iq_upJ J 67 (Int32.toNatClampNeg s1) s2), X))) (fun _ => rfl) hc_ ?_
  obtain ⟨J1, eJ1, h⟩ := ir_letG h
  rw [← eJ1]
  clear eJ1
  refine iq_G_go (k := 2) (σ' := (3, [some (.ref 63), some (.int x1), some (.int x2), some (.int x3), some (.int (x4 + (1 : Int32))), none], [], (iq_sh l, I, J1, X))) (fun _ => rfl) ?_
  cases h
  exact iq_G_fg (L := [some (.ref 63), some (.int x1), some (.int x2), some (.int x3), some (.int (x4 + (1 : Int32))), none]) (And.intro rfl (And.intro rfl (And.intro rfl (And.intro rfl (And.intro rfl trivial))))) (hc ((x4 + (1 : Int32)), J1) rfl)
set_option maxRecDepth 100000 in
theorem zP_countWays_40_ok (l : Nat)  (x1 : Int32) (x2 : Int32) (x3 : Int32) (x4 : Int32) (s1 : Int32) (I : iq_I) (J : iq_J) (X : iq_X)  {q : (Int32 × iq_J) ⊕ (iq_J)} (h : zP_countWays_40 x1 x2 x3 x4 s1 I J = some q) (r : iq_R × iq_M) (hc : ∀ v, q = .inl v → iq_Gg 2 66 (3, [some (.ref 63), some (.int x1), some (.int x2), some (.int x3), some (.int v.1), none], [], (iq_sh l, I, v.2, X)) r) (hx : ∀ w, q = .inr w → iq_Gg 2 66 (52, [some (.ref 63), some (.int x1), some (.int x2), none, none, none], [], (iq_sh l, I, w, X)) r) : iq_Gg 2 66 (40, [some (.ref 63), some (.int x1), some (.int x2), some (.int x3), some (.int x4), none], [.int s1, .ref 67], (iq_sh l, I, J, X)) r := by
  unfold zP_countWays_40 at h
  refine iq_G_go (k := 2) (σ' := (45, [some (.ref 63), some (.int x1), some (.int x2), some (.int x3), some (.int x4), none], [.long (1 : Int64), .int s1, .ref 67], (iq_sh l, I, J, X))) (fun _ => rfl) ?_
  exact iq_G_fg (L := [some (.ref 63), some (.int x1), some (.int x2), some (.int x3), some (.int x4), none]) (And.intro rfl (And.intro rfl (And.intro rfl (And.intro rfl (And.intro rfl trivial))))) (zP_countWays_45_ok l x1 x2 x3 x4 s1 (1 : Int64) I J X  h r hc hx)
set_option maxRecDepth 100000 in
theorem zP_countWays_l3_bok (l : Nat)  (x1 : Int32) (x2 : Int32) (x3 : Int32) (I : iq_I) (X : iq_X) (x4 : Int32) (J : iq_J) {q : (Int32 × iq_J) ⊕ (iq_J)} (h : zP_countWays_l3_b x1 x2 x3 I x4 J = some q) (r : iq_R × iq_M) (hc : ∀ v, q = .inl v → iq_Gg 2 66 (3, [some (.ref 63), some (.int x1), some (.int x2), some (.int x3), some (.int v.1), none], [], (iq_sh l, I, v.2, X)) r) (hx : ∀ w, q = .inr w → iq_Gg 2 66 (52, [some (.ref 63), some (.int x1), some (.int x2), none, none, none], [], (iq_sh l, I, w, X)) r) : iq_Gg 2 66 (3, [some (.ref 63), some (.int x1), some (.int x2), some (.int x3), some (.int x4), none], [], (iq_sh l, I, J, X)) r := by
  unfold zP_countWays_l3_b at h
  refine iq_G_go (k := 4) (σ' := (12, [some (.ref 63), some (.int x1), some (.int x2), some (.int x3), some (.int x4), none], [.int (I 4 0), .int x4], (iq_sh l, I, J, X))) (fun _ => rfl) ?_
  rcases iq_ite h with ⟨hc_, h⟩ | ⟨hc_, h⟩
  · refine iq_G_pos (c := (I 4 0) ≤ x4) (σ1 := (52, [some (.ref 63), some (.int x1), some (.int x2), some (.int x3), some (.int x4), none], [], (iq_sh l, I, J, X))) (fun _ => rfl) hc_ ?_
    cases h
    exact iq_G_fg (L := [some (.ref 63), some (.int x1), some (.int x2), none, none, none]) (And.intro rfl (And.intro rfl (And.intro rfl trivial))) (hx J rfl)
  · refine iq_G_neg (c := (I 4 0) ≤ x4) (σ1 := (15, [some (.ref 63), some (.int x1), some (.int x2), some (.int x3), some (.int x4), none], [], (iq_sh l, I, J, X))) (fun _ => rfl) hc_ ?_
    refine iq_G_go (k := 4) (σ' := (22, [some (.ref 63), some (.int x1), some (.int x2), some (.int x3), some (.int x4), none], [.int x3, .int x4, .ref 67], (iq_sh l, I, J, X))) (fun _ => rfl) ?_
    rcases iq_ite h with ⟨hc_, h⟩ | ⟨hc_, h⟩
    · refine iq_G_pos (c := x3 = 0) (σ1 := (40, [some (.ref 63), some (.int x1), some (.int x2), some (.int x3), some (.int x4), none], [.int x4, .ref 67], (iq_sh l, I, J, X))) (fun _ => rfl) hc_ ?_
      exact iq_G_fg (L := [some (.ref 63), some (.int x1), some (.int x2), some (.int x3), some (.int x4), none]) (And.intro rfl (And.intro rfl (And.intro rfl (And.intro rfl (And.intro rfl trivial))))) (zP_countWays_40_ok l x1 x2 x3 x4 x4 I J X  h r hc hx)
    · refine iq_G_neg (c := x3 = 0) (σ1 := (25, [some (.ref 63), some (.int x1), some (.int x2), some (.int x3), some (.int x4), none], [.int x4, .ref 67], (iq_sh l, I, J, X))) (fun _ => rfl) hc_ ?_
      refine iq_G_go (k := 7) (σ' := (37, [some (.ref 63), some (.int x1), some (.int x2), some (.int x3), some (.int x4), none], [.int (((I 4 1) >>> (x4 &&& 31)) &&& (1 : Int32)), .int x4, .ref 67], (iq_sh l, I, J, X))) (fun _ => rfl) ?_
      rcases iq_ite h with ⟨hc_, h⟩ | ⟨hc_, h⟩
      · refine iq_G_pos (c := (((I 4 1) >>> (x4 &&& 31)) &&& (1 : Int32)) = 0) (σ1 := (44, [some (.ref 63), some (.int x1), some (.int x2), some (.int x3), some (.int x4), none], [.int x4, .ref 67], (iq_sh l, I, J, X))) (fun _ => rfl) hc_ ?_
        refine iq_G_go (k := 1) (σ' := (45, [some (.ref 63), some (.int x1), some (.int x2), some (.int x3), some (.int x4), none], [.long (0 : Int64), .int x4, .ref 67], (iq_sh l, I, J, X))) (fun _ => rfl) ?_
        exact iq_G_fg (L := [some (.ref 63), some (.int x1), some (.int x2), some (.int x3), some (.int x4), none]) (And.intro rfl (And.intro rfl (And.intro rfl (And.intro rfl (And.intro rfl trivial))))) (zP_countWays_45_ok l x1 x2 x3 x4 x4 (0 : Int64) I J X  h r hc hx)
      · refine iq_G_neg (c := (((I 4 1) >>> (x4 &&& 31)) &&& (1 : Int32)) = 0) (σ1 := (40, [some (.ref 63), some (.int x1), some (.int x2), some (.int x3), some (.int x4), none], [.int x4, .ref 67], (iq_sh l, I, J, X))) (fun _ => rfl) hc_ ?_
        exact iq_G_fg (L := [some (.ref 63), some (.int x1), some (.int x2), some (.int x3), some (.int x4), none]) (And.intro rfl (And.intro rfl (And.intro rfl (And.intro rfl (And.intro rfl trivial))))) (zP_countWays_40_ok l x1 x2 x3 x4 x4 I J X  h r hc hx)
set_option maxRecDepth 100000 in
theorem zP_countWays_l3_ok (l : Nat)  (x1 : Int32) (x2 : Int32) (x3 : Int32) (I : iq_I) (X : iq_X) {n : Nat} {v : Int32 × iq_J} {w : iq_J} (h : zP_countWays_l3 x1 x2 x3 I n v = some w) (r : iq_R × iq_M) (hq : iq_Gg 2 66 (52, [some (.ref 63), some (.int x1), some (.int x2), none, none, none], [], (iq_sh l, I, w, X)) r) : iq_Gg 2 66 (3, [some (.ref 63), some (.int x1), some (.int x2), some (.int x3), some (.int v.1), none], [], (iq_sh l, I, v.2, X)) r :=
  iq_lp_ok (σ := fun v => (3, [some (.ref 63), some (.int x1), some (.int x2), some (.int x3), some (.int v.1), none], [], (iq_sh l, I, v.2, X))) (Q := fun w r => iq_Gg 2 66 (52, [some (.ref 63), some (.int x1), some (.int x2), none, none, none], [], (iq_sh l, I, w, X)) r) (fun v q hv r h1 h2 => zP_countWays_l3_bok l x1 x2 x3 I X v.1 v.2 hv r h1 h2) h r hq
set_option maxRecDepth 100000 in
theorem zP_countWays_l64_bok (l : Nat)  (x1 : Int32) (x2 : Int32) (x4 : Int32) (I : iq_I) (X : iq_X) (x5 : Int32) (J : iq_J) {q : (Int32 × iq_J) ⊕ (iq_J)} (h : zP_countWays_l64_b x1 x2 x4 I x5 J = some q) (r : iq_R × iq_M) (hc : ∀ v, q = .inl v → iq_Gg 2 66 (64, [some (.ref 63), some (.int x1), some (.int x2), none, some (.int x4), some (.int v.1)], [], (iq_sh l, I, v.2, X)) r) (hx : ∀ w, q = .inr w → iq_Gg 2 66 (95, [some (.ref 63), some (.int x1), some (.int x2), none, some (.int x4), none], [], (iq_sh l, I, w, X)) r) : iq_Gg 2 66 (64, [some (.ref 63), some (.int x1), some (.int x2), none, some (.int x4), some (.int x5)], [], (iq_sh l, I, J, X)) r := by
  unfold zP_countWays_l64_b at h
  refine iq_G_go (k := 4) (σ' := (73, [some (.ref 63), some (.int x1), some (.int x2), none, some (.int x4), some (.int x5)], [.int (I 4 0), .int x5], (iq_sh l, I, J, X))) (fun _ => rfl) ?_
  rcases iq_ite h with ⟨hc_, h⟩ | ⟨hc_, h⟩
  · refine iq_G_pos (c := (I 4 0) ≤ x5) (σ1 := (95, [some (.ref 63), some (.int x1), some (.int x2), none, some (.int x4), some (.int x5)], [], (iq_sh l, I, J, X))) (fun _ => rfl) hc_ ?_
    cases h
    exact iq_G_fg (L := [some (.ref 63), some (.int x1), some (.int x2), none, some (.int x4), none]) (And.intro rfl (And.intro rfl (And.intro rfl (And.intro rfl trivial)))) (hx J rfl)
  · refine iq_G_neg (c := (I 4 0) ≤ x5) (σ1 := (76, [some (.ref 63), some (.int x1), some (.int x2), none, some (.int x4), some (.int x5)], [], (iq_sh l, I, J, X))) (fun _ => rfl) hc_ ?_
    refine iq_G_go (k := 5) (σ' := (85, [some (.ref 63), some (.int x1), some (.int x2), none, some (.int x4), some (.int x5)], [.int x5, .ref 63, .int x5, .ref 68], (iq_sh l, I, J, X))) (fun _ => rfl) ?_
    obtain ⟨q3, hq3, h⟩ := iq_bnd h
    refine iq_G_call (σ' := (88, [some (.ref 63), some (.int x1), some (.int x2), none, some (.int x4), some (.int x5)], [.long q3, .int x5, .ref 68], (iq_sh l, I, J, X))) (fun _ => rfl) (zP_waysByOneMore_ok l x5 I J X hq3) rfl rfl ?_
    obtain ⟨hc_, h⟩ := iq_itn h
    refine iq_G_pos (c := iq_in x5 10) (σ1 := (89, [some (.ref 63), some (.int x1), some (.int x2), none, some (.int x4), some (.int x5)], [], (iq_sh l, I, (iq_upJ J 68 (Int32.toNatClampNeg x5) q3), X))) (fun _ => rfl) hc_ ?_
    obtain ⟨J4, eJ4, h⟩ := ir_letG h
    rw [← eJ4]
    clear eJ4
    refine iq_G_go (k := 2) (σ' := (64, [some (.ref 63), some (.int x1), some (.int x2), none, some (.int x4), some (.int (x5 + (1 : Int32)))], [], (iq_sh l, I, J4, X))) (fun _ => rfl) ?_
    cases h
    exact iq_G_fg (L := [some (.ref 63), some (.int x1), some (.int x2), none, some (.int x4), some (.int (x5 + (1 : Int32)))]) (And.intro rfl (And.intro rfl (And.intro rfl (And.intro rfl (And.intro rfl trivial))))) (hc ((x5 + (1 : Int32)), J4) rfl)
set_option maxRecDepth 100000 in
theorem zP_countWays_l64_ok (l : Nat)  (x1 : Int32) (x2 : Int32) (x4 : Int32) (I : iq_I) (X : iq_X) {n : Nat} {v : Int32 × iq_J} {w : iq_J} (h : zP_countWays_l64 x1 x2 x4 I n v = some w) (r : iq_R × iq_M) (hq : iq_Gg 2 66 (95, [some (.ref 63), some (.int x1), some (.int x2), none, some (.int x4), none], [], (iq_sh l, I, w, X)) r) : iq_Gg 2 66 (64, [some (.ref 63), some (.int x1), some (.int x2), none, some (.int x4), some (.int v.1)], [], (iq_sh l, I, v.2, X)) r :=
  iq_lp_ok (σ := fun v => (64, [some (.ref 63), some (.int x1), some (.int x2), none, some (.int x4), some (.int v.1)], [], (iq_sh l, I, v.2, X))) (Q := fun w r => iq_Gg 2 66 (95, [some (.ref 63), some (.int x1), some (.int x2), none, some (.int x4), none], [], (iq_sh l, I, w, X)) r) (fun v q hv r h1 h2 => zP_countWays_l64_bok l x1 x2 x4 I X v.1 v.2 hv r h1 h2) h r hq
set_option maxRecDepth 100000 in
theorem zP_countWays_l55_bok (l : Nat)  (x1 : Int32) (x2 : Int32) (I : iq_I) (X : iq_X) (x4 : Int32) (J : iq_J) {q : (Int32 × iq_J) ⊕ (iq_J)} (h : zP_countWays_l55_b x1 x2 I x4 J = some q) (r : iq_R × iq_M) (hc : ∀ v, q = .inl v → iq_Gg 2 66 (55, [some (.ref 63), some (.int x1), some (.int x2), none, some (.int v.1), none], [], (iq_sh l, I, v.2, X)) r) (hx : ∀ w, q = .inr w → iq_Gg 2 66 (116, [some (.ref 63), some (.int x1), none, none, none, none], [], (iq_sh l, I, w, X)) r) : iq_Gg 2 66 (55, [some (.ref 63), some (.int x1), some (.int x2), none, some (.int x4), none], [], (iq_sh l, I, J, X)) r := by
  unfold zP_countWays_l55_b at h
  refine iq_G_go (k := 2) (σ' := (58, [some (.ref 63), some (.int x1), some (.int x2), none, some (.int x4), none], [.int x2, .int x4], (iq_sh l, I, J, X))) (fun _ => rfl) ?_
  rcases iq_ite h with ⟨hc_, h⟩ | ⟨hc_, h⟩
  · refine iq_G_pos (c := x2 ≤ x4) (σ1 := (116, [some (.ref 63), some (.int x1), some (.int x2), none, some (.int x4), none], [], (iq_sh l, I, J, X))) (fun _ => rfl) hc_ ?_
    cases h
    exact iq_G_fg (L := [some (.ref 63), some (.int x1), none, none, none, none]) (And.intro rfl (And.intro rfl trivial)) (hx J rfl)
  · refine iq_G_neg (c := x2 ≤ x4) (σ1 := (61, [some (.ref 63), some (.int x1), some (.int x2), none, some (.int x4), none], [], (iq_sh l, I, J, X))) (fun _ => rfl) hc_ ?_
    refine iq_G_go (k := 2) (σ' := (64, [some (.ref 63), some (.int x1), some (.int x2), none, some (.int x4), some (.int (0 : Int32))], [], (iq_sh l, I, J, X))) (fun _ => rfl) ?_
    obtain ⟨w5, hw5, h⟩ := iq_bnd h
    refine iq_G_fg (L := [some (.ref 63), some (.int x1), some (.int x2), none, some (.int x4), some (.int (0 : Int32))]) (And.intro rfl (And.intro rfl (And.intro rfl (And.intro rfl (And.intro rfl trivial))))) ?_
    refine zP_countWays_l64_ok l x1 x2 x4 I X hw5 _ ?_
    show iq_Gg 2 66 (95, [some (.ref 63), some (.int x1), some (.int x2), none, some (.int x4), none], [], (iq_sh l, I, w5, X)) _
    refine iq_G_go (k := 7) (σ' := (107, [some (.ref 63), some (.int x1), some (.int x2), none, some (.int x4), none], [.int (10 : Int32), .int (0 : Int32), .ref 67, .int (0 : Int32), .ref 68], (iq_sh l, I, w5, X))) (fun _ => rfl) ?_
    refine iq_G_go (k := 1) (σ' := (110, [some (.ref 63), some (.int x1), some (.int x2), none, some (.int x4), none], [], (iq_sh l, I, (iq_cpJ w5 68 67 0 0 10), X))) (fun _ => rfl) ?_
    obtain ⟨J6, eJ6, h⟩ := ir_letG h
    rw [← eJ6]
    clear eJ6
    refine iq_G_go (k := 2) (σ' := (55, [some (.ref 63), some (.int x1), some (.int x2), none, some (.int (x4 + (1 : Int32))), none], [], (iq_sh l, I, J6, X))) (fun _ => rfl) ?_
    cases h
    exact iq_G_fg (L := [some (.ref 63), some (.int x1), some (.int x2), none, some (.int (x4 + (1 : Int32))), none]) (And.intro rfl (And.intro rfl (And.intro rfl (And.intro rfl trivial)))) (hc ((x4 + (1 : Int32)), J6) rfl)
set_option maxRecDepth 100000 in
theorem zP_countWays_l55_ok (l : Nat)  (x1 : Int32) (x2 : Int32) (I : iq_I) (X : iq_X) {n : Nat} {v : Int32 × iq_J} {w : iq_J} (h : zP_countWays_l55 x1 x2 I n v = some w) (r : iq_R × iq_M) (hq : iq_Gg 2 66 (116, [some (.ref 63), some (.int x1), none, none, none, none], [], (iq_sh l, I, w, X)) r) : iq_Gg 2 66 (55, [some (.ref 63), some (.int x1), some (.int x2), none, some (.int v.1), none], [], (iq_sh l, I, v.2, X)) r :=
  iq_lp_ok (σ := fun v => (55, [some (.ref 63), some (.int x1), some (.int x2), none, some (.int v.1), none], [], (iq_sh l, I, v.2, X))) (Q := fun w r => iq_Gg 2 66 (116, [some (.ref 63), some (.int x1), none, none, none, none], [], (iq_sh l, I, w, X)) r) (fun v q hv r h1 h2 => zP_countWays_l55_bok l x1 x2 I X v.1 v.2 hv r h1 h2) h r hq
set_option maxRecDepth 100000 in
theorem zP_countWays_ok (l : Nat)  (x1 : Int32) (x2 : Int32) (x3 : Int32) (I : iq_I) (J : iq_J) (X : iq_X) {q : Int64 × iq_J} (h : zP_countWays x1 x2 x3 I J = some q) : iq_Cc 3 66 [.ref 63, .int x1, .int x2, .int x3] (iq_sh l, I, J, X) (.inl (some (.long q.1)), (iq_sh l, I, q.2, X)) := by
  refine iq_Cc_of (L := [some (.ref 63), some (.int x1), some (.int x2), some (.int x3), none, none]) rfl rfl ?_
  unfold zP_countWays at h
  refine iq_G_go (k := 2) (σ' := (3, [some (.ref 63), some (.int x1), some (.int x2), some (.int x3), some (.int (0 : Int32)), none], [], (iq_sh l, I, J, X))) (fun _ => rfl) ?_
  obtain ⟨w2, hw2, h⟩ := iq_bnd h
  refine iq_G_fg (L := [some (.ref 63), some (.int x1), some (.int x2), some (.int x3), some (.int (0 : Int32)), none]) (And.intro rfl (And.intro rfl (And.intro rfl (And.intro rfl (And.intro rfl trivial))))) ?_
  refine zP_countWays_l3_ok l x1 x2 x3 I X hw2 _ ?_
  show iq_Gg 2 66 (52, [some (.ref 63), some (.int x1), some (.int x2), none, none, none], [], (iq_sh l, I, w2, X)) _
  refine iq_G_go (k := 2) (σ' := (55, [some (.ref 63), some (.int x1), some (.int x2), none, some (.int (0 : Int32)), none], [], (iq_sh l, I, w2, X))) (fun _ => rfl) ?_
  obtain ⟨w7, hw7, h⟩ := iq_bnd h
  refine iq_G_fg (L := [some (.ref 63), some (.int x1), some (.int x2), none, some (.int (0 : Int32)), none]) (And.intro rfl (And.intro rfl (And.intro rfl (And.intro rfl trivial)))) ?_
  refine zP_countWays_l55_ok l x1 x2 I X hw7 _ ?_
  show iq_Gg 2 66 (116, [some (.ref 63), some (.int x1), none, none, none, none], [], (iq_sh l, I, w7, X)) _
  refine iq_G_go (k := 1) (σ' := (117, [some (.ref 63), some (.int x1), none, none, none, none], [.int x1], (iq_sh l, I, w7, X))) (fun _ => rfl) ?_
  rcases iq_ite h with ⟨hc_, h⟩ | ⟨hc_, h⟩
  · refine iq_G_pos (c := x1 < 0) (σ1 := (126, [some (.ref 63), some (.int x1), none, none, none, none], [], (iq_sh l, I, w7, X))) (fun _ => rfl) hc_ ?_
    refine iq_G_go (k := 2) (σ' := (136, [some (.ref 63), some (.int x1), none, none, none, none], [.long (0 : Int64)], (iq_sh l, I, w7, X))) (fun _ => rfl) ?_
    cases h
    exact iq_G_ret (fun _ => rfl)
  · refine iq_G_neg (c := x1 < 0) (σ1 := (120, [some (.ref 63), some (.int x1), none, none, none, none], [], (iq_sh l, I, w7, X))) (fun _ => rfl) hc_ ?_
    refine iq_G_go (k := 2) (σ' := (123, [some (.ref 63), some (.int x1), none, none, none, none], [.int (10 : Int32), .int x1], (iq_sh l, I, w7, X))) (fun _ => rfl) ?_
    rcases iq_ite h with ⟨hc_, h⟩ | ⟨hc_, h⟩
    · refine iq_G_pos (c := x1 < (10 : Int32)) (σ1 := (130, [some (.ref 63), some (.int x1), none, none, none, none], [], (iq_sh l, I, w7, X))) (fun _ => rfl) hc_ ?_
      refine iq_G_go (k := 3) (σ' := (135, [some (.ref 63), some (.int x1), none, none, none, none], [.int x1, .ref 67], (iq_sh l, I, w7, X))) (fun _ => rfl) ?_
      obtain ⟨hc_, h⟩ := iq_itn h
      refine iq_G_pos (c := iq_in x1 10) (σ1 := (136, [some (.ref 63), some (.int x1), none, none, none, none], [.long (w7 67 (Int32.toNatClampNeg x1))], (iq_sh l, I, w7, X))) (fun _ => rfl) hc_ ?_
      cases h
      exact iq_G_ret (fun _ => rfl)
    · refine iq_G_neg (c := x1 < (10 : Int32)) (σ1 := (126, [some (.ref 63), some (.int x1), none, none, none, none], [], (iq_sh l, I, w7, X))) (fun _ => rfl) hc_ ?_
      refine iq_G_go (k := 2) (σ' := (136, [some (.ref 63), some (.int x1), none, none, none, none], [.long (0 : Int64)], (iq_sh l, I, w7, X))) (fun _ => rfl) ?_
      cases h
      exact iq_G_ret (fun _ => rfl)
set_option maxRecDepth 100000 in
theorem zO_ways_15_ok (l : Nat)   (I : iq_I) (J : iq_J) (X : iq_X)  {q : (Int64 ⊕ Nat) × iq_J × iq_X} (h : zO_ways_15 I J X = some q)  : iq_Gg 3 166 (15, [none, none, none, none], [], (iq_sh l, I, J, X)) ((ir_Rl q.1), (iq_sh l, I, q.2.1, q.2.2)) := by
  unfold zO_ways_15 at h
  cases h
  exact iq_G_ret (fun _ => rfl)
set_option maxRecDepth 100000 in
theorem zO_ways_ok (l : Nat)  (x1 : Int32) (x2 : Int32) (x3 : Int32) (I : iq_I) (J : iq_J) (X : iq_X) {q : (Int64 ⊕ Nat) × iq_J × iq_X} (h : zO_ways x1 x2 x3 I J X = some q) : iq_Cc 4 166 [.ref 1, .int x1, .int x2, .int x3] (iq_sh l, I, J, X) ((ir_Rl q.1), (iq_sh l, I, q.2.1, q.2.2)) := by
  refine iq_Cc_of (L := [some (.ref 1), some (.int x1), some (.int x2), some (.int x3)]) rfl rfl ?_
  unfold zO_ways at h
  refine iq_G_go (k := 2) (σ' := (2, [some (.ref 1), some (.int x1), some (.int x2), some (.int x3)], [.int x1, .ref 1], (iq_sh l, I, J, X))) (fun _ => rfl) ?_
  obtain ⟨q1, hq1, h⟩ := iq_bnd h
  have hC := (zO_needState_ok l x1 I J X hq1)
  rcases iq_smc h with ⟨a2, ha, h⟩ | ⟨k3, ha, h⟩
  · rw [ha] at hC
    refine iq_G_call (σ' := (5, [some (.ref 1), some (.int x1), some (.int x2), some (.int x3)], [], (iq_sh l, I, J, q1.2))) (fun _ => rfl) hC rfl rfl ?_
    refine iq_G_go (k := 1) (σ' := (6, [some (.ref 1), some (.int x1), some (.int x2), some (.int x3)], [.int x2], (iq_sh l, I, J, q1.2))) (fun _ => rfl) ?_
    rcases iq_ite h with ⟨hc_, h⟩ | ⟨hc_, h⟩
    · refine iq_G_pos (c := x2 < 0) (σ1 := (15, [some (.ref 1), some (.int x1), some (.int x2), some (.int x3)], [], (iq_sh l, I, J, q1.2))) (fun _ => rfl) hc_ ?_
      exact iq_G_fg (L := [none, none, none, none]) trivial (zO_ways_15_ok l I J q1.2  h )
    · refine iq_G_neg (c := x2 < 0) (σ1 := (9, [some (.ref 1), some (.int x1), some (.int x2), some (.int x3)], [], (iq_sh l, I, J, q1.2))) (fun _ => rfl) hc_ ?_
      refine iq_G_go (k := 2) (σ' := (12, [some (.ref 1), some (.int x1), some (.int x2), some (.int x3)], [.int (12 : Int32), .int x2], (iq_sh l, I, J, q1.2))) (fun _ => rfl) ?_
      rcases iq_ite h with ⟨hc_, h⟩ | ⟨hc_, h⟩
      · refine iq_G_pos (c := x2 ≤ (12 : Int32)) (σ1 := (25, [some (.ref 1), some (.int x1), some (.int x2), some (.int x3)], [], (iq_sh l, I, J, q1.2))) (fun _ => rfl) hc_ ?_
        refine iq_G_go (k := 5) (σ' := (32, [some (.ref 1), some (.int x1), some (.int x2), some (.int x3)], [.int x3, .int x2, .int x1, .ref 63], (iq_sh l, I, J, q1.2))) (fun _ => rfl) ?_
        obtain ⟨q4, hq4, h⟩ := iq_bnd h
        refine iq_G_call (σ' := (35, [some (.ref 1), some (.int x1), some (.int x2), some (.int x3)], [.long q4.1], (iq_sh l, I, q4.2, q1.2))) (fun _ => rfl) (zP_countWays_ok l x1 x2 x3 I J q1.2 hq4) rfl rfl ?_
        cases h
        exact iq_G_ret (fun _ => rfl)
      · refine iq_G_neg (c := x2 ≤ (12 : Int32)) (σ1 := (15, [some (.ref 1), some (.int x1), some (.int x2), some (.int x3)], [], (iq_sh l, I, J, q1.2))) (fun _ => rfl) hc_ ?_
        exact iq_G_fg (L := [none, none, none, none]) trivial (zO_ways_15_ok l I J q1.2  h )
  · rw [ha] at hC
    cases h
    exact iq_G_callx (fun _ => rfl) hC rfl rfl
set_option maxRecDepth 100000 in
theorem zL_ways_ok (l : Nat)  (x1 : Int32) (x2 : Int32) (x3 : Int32) (I : iq_I) (J : iq_J) (X : iq_X) {q : Int32 × iq_J × iq_X} (h : zL_ways x1 x2 x3 I J X = some q) : iq_Cc 5 338 [.ref 1, .int x1, .int x2, .int x3, .ref 114] (iq_sh l, I, J, X) (.inl (some (.int q.1)), (iq_sh l, I, q.2.1, q.2.2)) := by
  refine iq_Cc_of (L := [some (.ref 1), some (.int x1), some (.int x2), some (.int x3), some (.ref 114), none]) rfl rfl ?_
  unfold zL_ways at h
  refine iq_G_go (k := 6) (σ' := (7, [some (.ref 1), some (.int x1), some (.int x2), some (.int x3), some (.ref 114), none], [.int x3, .int x2, .int x1, .ref 1, .int (0 : Int32), .ref 114], (iq_sh l, I, J, X))) (fun _ => rfl) ?_
  obtain ⟨q1, hq1, h⟩ := iq_bnd h
  have hC := (zO_ways_ok l x1 x2 x3 I J X hq1)
  rcases iq_smc h with ⟨a2, ha, h⟩ | ⟨k3, ha, h⟩
  · rw [ha] at hC
    refine iq_G_call (σ' := (10, [some (.ref 1), some (.int x1), some (.int x2), some (.int x3), some (.ref 114), none], [.long a2, .int (0 : Int32), .ref 114], (iq_sh l, I, q1.2.1, q1.2.2))) (fun _ => rfl) hC rfl rfl ?_
    refine iq_G_go (k := 1) (σ' := (11, [some (.ref 1), some (.int x1), some (.int x2), some (.int x3), some (.ref 114), none], [], (iq_sh l, I, (iq_upJ q1.2.1 114 0 a2), q1.2.2))) (fun _ => rfl) ?_
    obtain ⟨J4, eJ4, h⟩ := ir_letG h
    rw [← eJ4]
    clear eJ4
    refine iq_G_go (k := 2) (σ' := (23, [some (.ref 1), some (.int x1), some (.int x2), some (.int x3), some (.ref 114), none], [.int (0 : Int32)], (iq_sh l, I, J4, q1.2.2))) (fun _ => rfl) ?_
    cases h
    exact iq_G_ret (fun _ => rfl)
  · rw [ha] at hC
    rcases iq_ite h with ⟨e, h⟩ | ⟨_, h⟩
    · subst e
      refine iq_G_call (σ' := (16, [some (.ref 1), some (.int x1), some (.int x2), some (.int x3), some (.ref 114), none], [], (iq_sh l, I, q1.2.1, q1.2.2))) (fun _ => rfl) hC rfl rfl ?_
      refine iq_G_go (k := 1) (σ' := (17, [some (.ref 1), some (.int x1), some (.int x2), some (.int x3), some (.ref 114), none], [.int (1 : Int32)], (iq_sh l, I, q1.2.1, q1.2.2))) (fun _ => rfl) ?_
      cases h
      exact iq_G_ret (fun _ => rfl)
    · obtain ⟨e, h⟩ := iq_itn h
      subst e
      refine iq_G_call (σ' := (20, [some (.ref 1), some (.int x1), some (.int x2), some (.int x3), some (.ref 114), none], [], (iq_sh l, I, q1.2.1, q1.2.2))) (fun _ => rfl) hC rfl rfl ?_
      refine iq_G_go (k := 1) (σ' := (21, [some (.ref 1), some (.int x1), some (.int x2), some (.int x3), some (.ref 114), none], [.int (2 : Int32)], (iq_sh l, I, q1.2.1, q1.2.2))) (fun _ => rfl) ?_
      cases h
      exact iq_G_ret (fun _ => rfl)
set_option maxRecDepth 100000 in
theorem zM_ways_70_ok (l : Nat)  (x1 : Int32) (x2 : Int32) (x3 : Int32) (x4 : Int32) (s1 : Int32) (s2 : Int64) (I : iq_I) (J : iq_J) (X : iq_X)  {q : (Int32 × iq_J) ⊕ (iq_J)} (h : zM_ways_70 x1 x2 x3 x4 s1 s2 I J = some q) (r : iq_R × iq_M) (hc : ∀ v, q = .inl v → iq_Gg 2 277 (33, [some (.ref 76), some (.int x1), some (.int x2), some (.int x3), some (.int v.1), none, none], [], (iq_sh l, I, v.2, X)) r) (hx : ∀ w, q = .inr w → iq_Gg 2 277 (77, [some (.ref 76), some (.int x1), some (.int x2), none, none, none, none], [], (iq_sh l, I, w, X)) r) : iq_Gg 2 277 (70, [some (.ref 76), some (.int x1), some (.int x2), some (.int x3), some (.int x4), none, none], [.long s2, .int s1, .ref 104], (iq_sh l, I, J, X)) r := by
  unfold zM_ways_70 at h
  obtain ⟨hc_, h⟩ := iq_itn h
  refine iq_G_pos (c := iq_in s1 10) (σ1 := (71, [some (.ref 76), some (.int x1), some (.int x2), some (.int x3), some (.int x4), none, none], [], (iq_sh l, I, (iq_upJ J 104 (Int32.toNatClampNeg s1) s2), X))) (fun _ => rfl) hc_ ?_
  obtain ⟨J5, eJ5, h⟩ := ir_letG h
  rw [← eJ5]
  clear eJ5
  refine iq_G_go (k := 2) (σ' := (33, [some (.ref 76), some (.int x1), some (.int x2), some (.int x3), some (.int (x4 + (1 : Int32))), none, none], [], (iq_sh l, I, J5, X))) (fun _ => rfl) ?_
  cases h
  exact iq_G_fg (L := [some (.ref 76), some (.int x1), some (.int x2), some (.int x3), some (.int (x4 + (1 : Int32))), none, none]) (And.intro rfl (And.intro rfl (And.intro rfl (And.intro rfl (And.intro rfl trivial))))) (hc ((x4 + (1 : Int32)), J5) rfl)
set_option maxRecDepth 100000 in
theorem zM_ways_65_ok (l : Nat)  (x1 : Int32) (x2 : Int32) (x3 : Int32) (x4 : Int32) (s1 : Int32) (I : iq_I) (J : iq_J) (X : iq_X)  {q : (Int32 × iq_J) ⊕ (iq_J)} (h : zM_ways_65 x1 x2 x3 x4 s1 I J = some q) (r : iq_R × iq_M) (hc : ∀ v, q = .inl v → iq_Gg 2 277 (33, [some (.ref 76), some (.int x1), some (.int x2), some (.int x3), some (.int v.1), none, none], [], (iq_sh l, I, v.2, X)) r) (hx : ∀ w, q = .inr w → iq_Gg 2 277 (77, [some (.ref 76), some (.int x1), some (.int x2), none, none, none, none], [], (iq_sh l, I, w, X)) r) : iq_Gg 2 277 (65, [some (.ref 76), some (.int x1), some (.int x2), some (.int x3), some (.int x4), none, none], [.int s1, .ref 104], (iq_sh l, I, J, X)) r := by
  unfold zM_ways_65 at h
  refine iq_G_go (k := 2) (σ' := (70, [some (.ref 76), some (.int x1), some (.int x2), some (.int x3), some (.int x4), none, none], [.long (1 : Int64), .int s1, .ref 104], (iq_sh l, I, J, X))) (fun _ => rfl) ?_
  exact iq_G_fg (L := [some (.ref 76), some (.int x1), some (.int x2), some (.int x3), some (.int x4), none, none]) (And.intro rfl (And.intro rfl (And.intro rfl (And.intro rfl (And.intro rfl trivial))))) (zM_ways_70_ok l x1 x2 x3 x4 s1 (1 : Int64) I J X  h r hc hx)
set_option maxRecDepth 100000 in
theorem zM_ways_l33_bok (l : Nat)  (x1 : Int32) (x2 : Int32) (x3 : Int32) (I : iq_I) (X : iq_X) (x4 : Int32) (J : iq_J) {q : (Int32 × iq_J) ⊕ (iq_J)} (h : zM_ways_l33_b x1 x2 x3 I x4 J = some q) (r : iq_R × iq_M) (hc : ∀ v, q = .inl v → iq_Gg 2 277 (33, [some (.ref 76), some (.int x1), some (.int x2), some (.int x3), some (.int v.1), none, none], [], (iq_sh l, I, v.2, X)) r) (hx : ∀ w, q = .inr w → iq_Gg 2 277 (77, [some (.ref 76), some (.int x1), some (.int x2), none, none, none, none], [], (iq_sh l, I, w, X)) r) : iq_Gg 2 277 (33, [some (.ref 76), some (.int x1), some (.int x2), some (.int x3), some (.int x4), none, none], [], (iq_sh l, I, J, X)) r := by
  unfold zM_ways_l33_b at h
  refine iq_G_go (k := 3) (σ' := (39, [some (.ref 76), some (.int x1), some (.int x2), some (.int x3), some (.int x4), none, none], [.int (I 76 1), .int x4], (iq_sh l, I, J, X))) (fun _ => rfl) ?_
  rcases iq_ite h with ⟨hc_, h⟩ | ⟨hc_, h⟩
  · refine iq_G_pos (c := (I 76 1) ≤ x4) (σ1 := (77, [some (.ref 76), some (.int x1), some (.int x2), some (.int x3), some (.int x4), none, none], [], (iq_sh l, I, J, X))) (fun _ => rfl) hc_ ?_
    cases h
    exact iq_G_fg (L := [some (.ref 76), some (.int x1), some (.int x2), none, none, none, none]) (And.intro rfl (And.intro rfl (And.intro rfl trivial))) (hx J rfl)
  · refine iq_G_neg (c := (I 76 1) ≤ x4) (σ1 := (42, [some (.ref 76), some (.int x1), some (.int x2), some (.int x3), some (.int x4), none, none], [], (iq_sh l, I, J, X))) (fun _ => rfl) hc_ ?_
    refine iq_G_go (k := 4) (σ' := (49, [some (.ref 76), some (.int x1), some (.int x2), some (.int x3), some (.int x4), none, none], [.int x3, .int x4, .ref 104], (iq_sh l, I, J, X))) (fun _ => rfl) ?_
    rcases iq_ite h with ⟨hc_, h⟩ | ⟨hc_, h⟩
    · refine iq_G_pos (c := x3 = 0) (σ1 := (65, [some (.ref 76), some (.int x1), some (.int x2), some (.int x3), some (.int x4), none, none], [.int x4, .ref 104], (iq_sh l, I, J, X))) (fun _ => rfl) hc_ ?_
      exact iq_G_fg (L := [some (.ref 76), some (.int x1), some (.int x2), some (.int x3), some (.int x4), none, none]) (And.intro rfl (And.intro rfl (And.intro rfl (And.intro rfl (And.intro rfl trivial))))) (zM_ways_65_ok l x1 x2 x3 x4 x4 I J X  h r hc hx)
    · refine iq_G_neg (c := x3 = 0) (σ1 := (52, [some (.ref 76), some (.int x1), some (.int x2), some (.int x3), some (.int x4), none, none], [.int x4, .ref 104], (iq_sh l, I, J, X))) (fun _ => rfl) hc_ ?_
      refine iq_G_go (k := 7) (σ' := (62, [some (.ref 76), some (.int x1), some (.int x2), some (.int x3), some (.int x4), none, none], [.int (1 : Int32), .int (((I 76 7) >>> (x4 &&& 31)) &&& (1 : Int32)), .int x4, .ref 104], (iq_sh l, I, J, X))) (fun _ => rfl) ?_
      rcases iq_ite h with ⟨hc_, h⟩ | ⟨hc_, h⟩
      · refine iq_G_pos (c := ¬ (((I 76 7) >>> (x4 &&& 31)) &&& (1 : Int32)) = (1 : Int32)) (σ1 := (69, [some (.ref 76), some (.int x1), some (.int x2), some (.int x3), some (.int x4), none, none], [.int x4, .ref 104], (iq_sh l, I, J, X))) (fun _ => rfl) hc_ ?_
        refine iq_G_go (k := 1) (σ' := (70, [some (.ref 76), some (.int x1), some (.int x2), some (.int x3), some (.int x4), none, none], [.long (0 : Int64), .int x4, .ref 104], (iq_sh l, I, J, X))) (fun _ => rfl) ?_
        exact iq_G_fg (L := [some (.ref 76), some (.int x1), some (.int x2), some (.int x3), some (.int x4), none, none]) (And.intro rfl (And.intro rfl (And.intro rfl (And.intro rfl (And.intro rfl trivial))))) (zM_ways_70_ok l x1 x2 x3 x4 x4 (0 : Int64) I J X  h r hc hx)
      · refine iq_G_neg (c := ¬ (((I 76 7) >>> (x4 &&& 31)) &&& (1 : Int32)) = (1 : Int32)) (σ1 := (65, [some (.ref 76), some (.int x1), some (.int x2), some (.int x3), some (.int x4), none, none], [.int x4, .ref 104], (iq_sh l, I, J, X))) (fun _ => rfl) hc_ ?_
        exact iq_G_fg (L := [some (.ref 76), some (.int x1), some (.int x2), some (.int x3), some (.int x4), none, none]) (And.intro rfl (And.intro rfl (And.intro rfl (And.intro rfl (And.intro rfl trivial))))) (zM_ways_65_ok l x1 x2 x3 x4 x4 I J X  h r hc hx)
set_option maxRecDepth 100000 in
theorem zM_ways_l33_ok (l : Nat)  (x1 : Int32) (x2 : Int32) (x3 : Int32) (I : iq_I) (X : iq_X) {n : Nat} {v : Int32 × iq_J} {w : iq_J} (h : zM_ways_l33 x1 x2 x3 I n v = some w) (r : iq_R × iq_M) (hq : iq_Gg 2 277 (77, [some (.ref 76), some (.int x1), some (.int x2), none, none, none, none], [], (iq_sh l, I, w, X)) r) : iq_Gg 2 277 (33, [some (.ref 76), some (.int x1), some (.int x2), some (.int x3), some (.int v.1), none, none], [], (iq_sh l, I, v.2, X)) r :=
  iq_lp_ok (σ := fun v => (33, [some (.ref 76), some (.int x1), some (.int x2), some (.int x3), some (.int v.1), none, none], [], (iq_sh l, I, v.2, X))) (Q := fun w r => iq_Gg 2 277 (77, [some (.ref 76), some (.int x1), some (.int x2), none, none, none, none], [], (iq_sh l, I, w, X)) r) (fun v q hv r h1 h2 => zM_ways_l33_bok l x1 x2 x3 I X v.1 v.2 hv r h1 h2) h r hq
set_option maxRecDepth 100000 in
theorem zM_ways_l109_bok (l : Nat)  (x1 : Int32) (x2 : Int32) (x4 : Int32) (x5 : Int32) (I : iq_I) (X : iq_X) (x6 : Int32) (J : iq_J) {q : (Int32 × iq_J) ⊕ (iq_J)} (h : zM_ways_l109_b x1 x2 x4 x5 I x6 J = some q) (r : iq_R × iq_M) (hc : ∀ v, q = .inl v → iq_Gg 2 277 (109, [some (.ref 76), some (.int x1), some (.int x2), none, some (.int x4), some (.int x5), some (.int v.1)], [], (iq_sh l, I, v.2, X)) r) (hx : ∀ w, q = .inr w → iq_Gg 2 277 (159, [some (.ref 76), some (.int x1), some (.int x2), none, some (.int x4), some (.int x5), none], [], (iq_sh l, I, w, X)) r) : iq_Gg 2 277 (109, [some (.ref 76), some (.int x1), some (.int x2), none, some (.int x4), some (.int x5), some (.int x6)], [], (iq_sh l, I, J, X)) r := by
  unfold zM_ways_l109_b at h
  refine iq_G_go (k := 3) (σ' := (115, [some (.ref 76), some (.int x1), some (.int x2), none, some (.int x4), some (.int x5), some (.int x6)], [.int (I 76 2), .int x6], (iq_sh l, I, J, X))) (fun _ => rfl) ?_
  rcases iq_ite h with ⟨hc_, h⟩ | ⟨hc_, h⟩
  · refine iq_G_pos (c := (I 76 2) ≤ x6) (σ1 := (159, [some (.ref 76), some (.int x1), some (.int x2), none, some (.int x4), some (.int x5), some (.int x6)], [], (iq_sh l, I, J, X))) (fun _ => rfl) hc_ ?_
    cases h
    exact iq_G_fg (L := [some (.ref 76), some (.int x1), some (.int x2), none, some (.int x4), some (.int x5), none]) (And.intro rfl (And.intro rfl (And.intro rfl (And.intro rfl (And.intro rfl trivial))))) (hx J rfl)
  · refine iq_G_neg (c := (I 76 2) ≤ x6) (σ1 := (118, [some (.ref 76), some (.int x1), some (.int x2), none, some (.int x4), some (.int x5), some (.int x6)], [], (iq_sh l, I, J, X))) (fun _ => rfl) hc_ ?_
    refine iq_G_go (k := 3) (σ' := (123, [some (.ref 76), some (.int x1), some (.int x2), none, some (.int x4), some (.int x5), some (.int x6)], [.int x6, .int x5, .ref 76], (iq_sh l, I, J, X))) (fun _ => rfl) ?_
    obtain ⟨q8, hq8, h⟩ := iq_bnd h
    refine iq_G_call (σ' := (126, [some (.ref 76), some (.int x1), some (.int x2), none, some (.int x4), some (.int x5), some (.int x6)], [.int q8], (iq_sh l, I, J, X))) (fun _ => rfl) (zM_leads_ok l x5 x6 I J X hq8) rfl rfl ?_
    refine iq_G_go (k := 1) (σ' := (127, [some (.ref 76), some (.int x1), some (.int x2), none, some (.int x4), some (.int x5), some (.int x6)], [.int (-1 : Int32), .int q8], (iq_sh l, I, J, X))) (fun _ => rfl) ?_
    rcases iq_ite h with ⟨hc_, h⟩ | ⟨hc_, h⟩
    · refine iq_G_pos (c := q8 = (-1 : Int32)) (σ1 := (153, [some (.ref 76), some (.int x1), some (.int x2), none, some (.int x4), some (.int x5), some (.int x6)], [], (iq_sh l, I, J, X))) (fun _ => rfl) hc_ ?_
      refine iq_G_go (k := 2) (σ' := (109, [some (.ref 76), some (.int x1), some (.int x2), none, some (.int x4), some (.int x5), some (.int (x6 + (1 : Int32)))], [], (iq_sh l, I, J, X))) (fun _ => rfl) ?_
      cases h
      exact iq_G_fg (L := [some (.ref 76), some (.int x1), some (.int x2), none, some (.int x4), some (.int x5), some (.int (x6 + (1 : Int32)))]) (And.intro rfl (And.intro rfl (And.intro rfl (And.intro rfl (And.intro rfl (And.intro rfl trivial)))))) (hc ((x6 + (1 : Int32)), J) rfl)
    · refine iq_G_neg (c := q8 = (-1 : Int32)) (σ1 := (130, [some (.ref 76), some (.int x1), some (.int x2), none, some (.int x4), some (.int x5), some (.int x6)], [], (iq_sh l, I, J, X))) (fun _ => rfl) hc_ ?_
      refine iq_G_go (k := 4) (σ' := (137, [some (.ref 76), some (.int x1), some (.int x2), none, some (.int x4), some (.int x5), some (.int x6)], [.int x5, .ref 105, .int x5, .ref 105], (iq_sh l, I, J, X))) (fun _ => rfl) ?_
      obtain ⟨hc_, h⟩ := iq_itn h
      refine iq_G_pos (c := iq_in x5 10) (σ1 := (138, [some (.ref 76), some (.int x1), some (.int x2), none, some (.int x4), some (.int x5), some (.int x6)], [.long (J 105 (Int32.toNatClampNeg x5)), .int x5, .ref 105], (iq_sh l, I, J, X))) (fun _ => rfl) hc_ ?_
      refine iq_G_go (k := 5) (σ' := (147, [some (.ref 76), some (.int x1), some (.int x2), none, some (.int x4), some (.int x5), some (.int x6)], [.int x6, .int x5, .ref 76, .ref 104, .long (J 105 (Int32.toNatClampNeg x5)), .int x5, .ref 105], (iq_sh l, I, J, X))) (fun _ => rfl) ?_
      obtain ⟨q9, hq9, h⟩ := iq_bnd h
      refine iq_G_call (σ' := (150, [some (.ref 76), some (.int x1), some (.int x2), none, some (.int x4), some (.int x5), some (.int x6)], [.int q9, .ref 104, .long (J 105 (Int32.toNatClampNeg x5)), .int x5, .ref 105], (iq_sh l, I, J, X))) (fun _ => rfl) (zM_leads_ok l x5 x6 I J X hq9) rfl rfl ?_
      obtain ⟨hc_, h⟩ := iq_itn h
      refine iq_G_pos (c := iq_in q9 10) (σ1 := (151, [some (.ref 76), some (.int x1), some (.int x2), none, some (.int x4), some (.int x5), some (.int x6)], [.long (J 104 (Int32.toNatClampNeg q9)), .long (J 105 (Int32.toNatClampNeg x5)), .int x5, .ref 105], (iq_sh l, I, J, X))) (fun _ => rfl) hc_ ?_
      refine iq_G_go (k := 1) (σ' := (152, [some (.ref 76), some (.int x1), some (.int x2), none, some (.int x4), some (.int x5), some (.int x6)], [.long ((J 105 (Int32.toNatClampNeg x5)) + (J 104 (Int32.toNatClampNeg q9))), .int x5, .ref 105], (iq_sh l, I, J, X))) (fun _ => rfl) ?_
      obtain ⟨hc_, h⟩ := iq_itn h
      refine iq_G_pos (c := iq_in x5 10) (σ1 := (153, [some (.ref 76), some (.int x1), some (.int x2), none, some (.int x4), some (.int x5), some (.int x6)], [], (iq_sh l, I, (iq_upJ J 105 (Int32.toNatClampNeg x5) ((J 105 (Int32.toNatClampNeg x5)) + (J 104 (Int32.toNatClampNeg q9)))), X))) (fun _ => rfl) hc_ ?_
      obtain ⟨J10, eJ10, h⟩ := ir_letG h
      rw [← eJ10]
      clear eJ10
      refine iq_G_go (k := 2) (σ' := (109, [some (.ref 76), some (.int x1), some (.int x2), none, some (.int x4), some (.int x5), some (.int (x6 + (1 : Int32)))], [], (iq_sh l, I, J10, X))) (fun _ => rfl) ?_
      cases h
      exact iq_G_fg (L := [some (.ref 76), some (.int x1), some (.int x2), none, some (.int x4), some (.int x5), some (.int (x6 + (1 : Int32)))]) (And.intro rfl (And.intro rfl (And.intro rfl (And.intro rfl (And.intro rfl (And.intro rfl trivial)))))) (hc ((x6 + (1 : Int32)), J10) rfl)
set_option maxRecDepth 100000 in
theorem zM_ways_l109_ok (l : Nat)  (x1 : Int32) (x2 : Int32) (x4 : Int32) (x5 : Int32) (I : iq_I) (X : iq_X) {n : Nat} {v : Int32 × iq_J} {w : iq_J} (h : zM_ways_l109 x1 x2 x4 x5 I n v = some w) (r : iq_R × iq_M) (hq : iq_Gg 2 277 (159, [some (.ref 76), some (.int x1), some (.int x2), none, some (.int x4), some (.int x5), none], [], (iq_sh l, I, w, X)) r) : iq_Gg 2 277 (109, [some (.ref 76), some (.int x1), some (.int x2), none, some (.int x4), some (.int x5), some (.int v.1)], [], (iq_sh l, I, v.2, X)) r :=
  iq_lp_ok (σ := fun v => (109, [some (.ref 76), some (.int x1), some (.int x2), none, some (.int x4), some (.int x5), some (.int v.1)], [], (iq_sh l, I, v.2, X))) (Q := fun w r => iq_Gg 2 277 (159, [some (.ref 76), some (.int x1), some (.int x2), none, some (.int x4), some (.int x5), none], [], (iq_sh l, I, w, X)) r) (fun v q hv r h1 h2 => zM_ways_l109_bok l x1 x2 x4 x5 I X v.1 v.2 hv r h1 h2) h r hq
set_option maxRecDepth 100000 in
theorem zM_ways_l89_bok (l : Nat)  (x1 : Int32) (x2 : Int32) (x4 : Int32) (I : iq_I) (X : iq_X) (x5 : Int32) (J : iq_J) {q : (Int32 × iq_J) ⊕ (iq_J)} (h : zM_ways_l89_b x1 x2 x4 I x5 J = some q) (r : iq_R × iq_M) (hc : ∀ v, q = .inl v → iq_Gg 2 277 (89, [some (.ref 76), some (.int x1), some (.int x2), none, some (.int x4), some (.int v.1), none], [], (iq_sh l, I, v.2, X)) r) (hx : ∀ w, q = .inr w → iq_Gg 2 277 (165, [some (.ref 76), some (.int x1), some (.int x2), none, some (.int x4), none, none], [], (iq_sh l, I, w, X)) r) : iq_Gg 2 277 (89, [some (.ref 76), some (.int x1), some (.int x2), none, some (.int x4), some (.int x5), none], [], (iq_sh l, I, J, X)) r := by
  unfold zM_ways_l89_b at h
  refine iq_G_go (k := 3) (σ' := (95, [some (.ref 76), some (.int x1), some (.int x2), none, some (.int x4), some (.int x5), none], [.int (I 76 1), .int x5], (iq_sh l, I, J, X))) (fun _ => rfl) ?_
  rcases iq_ite h with ⟨hc_, h⟩ | ⟨hc_, h⟩
  · refine iq_G_pos (c := (I 76 1) ≤ x5) (σ1 := (165, [some (.ref 76), some (.int x1), some (.int x2), none, some (.int x4), some (.int x5), none], [], (iq_sh l, I, J, X))) (fun _ => rfl) hc_ ?_
    cases h
    exact iq_G_fg (L := [some (.ref 76), some (.int x1), some (.int x2), none, some (.int x4), none, none]) (And.intro rfl (And.intro rfl (And.intro rfl (And.intro rfl trivial)))) (hx J rfl)
  · refine iq_G_neg (c := (I 76 1) ≤ x5) (σ1 := (98, [some (.ref 76), some (.int x1), some (.int x2), none, some (.int x4), some (.int x5), none], [], (iq_sh l, I, J, X))) (fun _ => rfl) hc_ ?_
    refine iq_G_go (k := 4) (σ' := (105, [some (.ref 76), some (.int x1), some (.int x2), none, some (.int x4), some (.int x5), none], [.long (0 : Int64), .int x5, .ref 105], (iq_sh l, I, J, X))) (fun _ => rfl) ?_
    obtain ⟨hc_, h⟩ := iq_itn h
    refine iq_G_pos (c := iq_in x5 10) (σ1 := (106, [some (.ref 76), some (.int x1), some (.int x2), none, some (.int x4), some (.int x5), none], [], (iq_sh l, I, (iq_upJ J 105 (Int32.toNatClampNeg x5) (0 : Int64)), X))) (fun _ => rfl) hc_ ?_
    obtain ⟨J7, eJ7, h⟩ := ir_letG h
    rw [← eJ7]
    clear eJ7
    refine iq_G_go (k := 2) (σ' := (109, [some (.ref 76), some (.int x1), some (.int x2), none, some (.int x4), some (.int x5), some (.int (0 : Int32))], [], (iq_sh l, I, J7, X))) (fun _ => rfl) ?_
    obtain ⟨w11, hw11, h⟩ := iq_bnd h
    refine iq_G_fg (L := [some (.ref 76), some (.int x1), some (.int x2), none, some (.int x4), some (.int x5), some (.int (0 : Int32))]) (And.intro rfl (And.intro rfl (And.intro rfl (And.intro rfl (And.intro rfl (And.intro rfl trivial)))))) ?_
    refine zM_ways_l109_ok l x1 x2 x4 x5 I X hw11 _ ?_
    show iq_Gg 2 277 (159, [some (.ref 76), some (.int x1), some (.int x2), none, some (.int x4), some (.int x5), none], [], (iq_sh l, I, w11, X)) _
    refine iq_G_go (k := 2) (σ' := (89, [some (.ref 76), some (.int x1), some (.int x2), none, some (.int x4), some (.int (x5 + (1 : Int32))), none], [], (iq_sh l, I, w11, X))) (fun _ => rfl) ?_
    cases h
    exact iq_G_fg (L := [some (.ref 76), some (.int x1), some (.int x2), none, some (.int x4), some (.int (x5 + (1 : Int32))), none]) (And.intro rfl (And.intro rfl (And.intro rfl (And.intro rfl (And.intro rfl trivial))))) (hc ((x5 + (1 : Int32)), w11) rfl)
set_option maxRecDepth 100000 in
theorem zM_ways_l89_ok (l : Nat)  (x1 : Int32) (x2 : Int32) (x4 : Int32) (I : iq_I) (X : iq_X) {n : Nat} {v : Int32 × iq_J} {w : iq_J} (h : zM_ways_l89 x1 x2 x4 I n v = some w) (r : iq_R × iq_M) (hq : iq_Gg 2 277 (165, [some (.ref 76), some (.int x1), some (.int x2), none, some (.int x4), none, none], [], (iq_sh l, I, w, X)) r) : iq_Gg 2 277 (89, [some (.ref 76), some (.int x1), some (.int x2), none, some (.int x4), some (.int v.1), none], [], (iq_sh l, I, v.2, X)) r :=
  iq_lp_ok (σ := fun v => (89, [some (.ref 76), some (.int x1), some (.int x2), none, some (.int x4), some (.int v.1), none], [], (iq_sh l, I, v.2, X))) (Q := fun w r => iq_Gg 2 277 (165, [some (.ref 76), some (.int x1), some (.int x2), none, some (.int x4), none, none], [], (iq_sh l, I, w, X)) r) (fun v q hv r h1 h2 => zM_ways_l89_bok l x1 x2 x4 I X v.1 v.2 hv r h1 h2) h r hq
set_option maxRecDepth 100000 in
theorem zM_ways_l168_bok (l : Nat)  (x1 : Int32) (x2 : Int32) (x4 : Int32) (I : iq_I) (X : iq_X) (x5 : Int32) (J : iq_J) {q : (Int32 × iq_J) ⊕ (iq_J)} (h : zM_ways_l168_b x1 x2 x4 I x5 J = some q) (r : iq_R × iq_M) (hc : ∀ v, q = .inl v → iq_Gg 2 277 (168, [some (.ref 76), some (.int x1), some (.int x2), none, some (.int x4), some (.int v.1), none], [], (iq_sh l, I, v.2, X)) r) (hx : ∀ w, q = .inr w → iq_Gg 2 277 (197, [some (.ref 76), some (.int x1), some (.int x2), none, some (.int x4), none, none], [], (iq_sh l, I, w, X)) r) : iq_Gg 2 277 (168, [some (.ref 76), some (.int x1), some (.int x2), none, some (.int x4), some (.int x5), none], [], (iq_sh l, I, J, X)) r := by
  unfold zM_ways_l168_b at h
  refine iq_G_go (k := 3) (σ' := (174, [some (.ref 76), some (.int x1), some (.int x2), none, some (.int x4), some (.int x5), none], [.int (I 76 1), .int x5], (iq_sh l, I, J, X))) (fun _ => rfl) ?_
  rcases iq_ite h with ⟨hc_, h⟩ | ⟨hc_, h⟩
  · refine iq_G_pos (c := (I 76 1) ≤ x5) (σ1 := (197, [some (.ref 76), some (.int x1), some (.int x2), none, some (.int x4), some (.int x5), none], [], (iq_sh l, I, J, X))) (fun _ => rfl) hc_ ?_
    cases h
    exact iq_G_fg (L := [some (.ref 76), some (.int x1), some (.int x2), none, some (.int x4), none, none]) (And.intro rfl (And.intro rfl (And.intro rfl (And.intro rfl trivial)))) (hx J rfl)
  · refine iq_G_neg (c := (I 76 1) ≤ x5) (σ1 := (177, [some (.ref 76), some (.int x1), some (.int x2), none, some (.int x4), some (.int x5), none], [], (iq_sh l, I, J, X))) (fun _ => rfl) hc_ ?_
    refine iq_G_go (k := 6) (σ' := (189, [some (.ref 76), some (.int x1), some (.int x2), none, some (.int x4), some (.int x5), none], [.int x5, .ref 105, .int x5, .ref 104], (iq_sh l, I, J, X))) (fun _ => rfl) ?_
    obtain ⟨hc_, h⟩ := iq_itn h
    refine iq_G_pos (c := iq_in x5 10) (σ1 := (190, [some (.ref 76), some (.int x1), some (.int x2), none, some (.int x4), some (.int x5), none], [.long (J 105 (Int32.toNatClampNeg x5)), .int x5, .ref 104], (iq_sh l, I, J, X))) (fun _ => rfl) hc_ ?_
    obtain ⟨hc_, h⟩ := iq_itn h
    refine iq_G_pos (c := iq_in x5 10) (σ1 := (191, [some (.ref 76), some (.int x1), some (.int x2), none, some (.int x4), some (.int x5), none], [], (iq_sh l, I, (iq_upJ J 104 (Int32.toNatClampNeg x5) (J 105 (Int32.toNatClampNeg x5))), X))) (fun _ => rfl) hc_ ?_
    obtain ⟨J13, eJ13, h⟩ := ir_letG h
    rw [← eJ13]
    clear eJ13
    refine iq_G_go (k := 2) (σ' := (168, [some (.ref 76), some (.int x1), some (.int x2), none, some (.int x4), some (.int (x5 + (1 : Int32))), none], [], (iq_sh l, I, J13, X))) (fun _ => rfl) ?_
    cases h
    exact iq_G_fg (L := [some (.ref 76), some (.int x1), some (.int x2), none, some (.int x4), some (.int (x5 + (1 : Int32))), none]) (And.intro rfl (And.intro rfl (And.intro rfl (And.intro rfl (And.intro rfl trivial))))) (hc ((x5 + (1 : Int32)), J13) rfl)
set_option maxRecDepth 100000 in
theorem zM_ways_l168_ok (l : Nat)  (x1 : Int32) (x2 : Int32) (x4 : Int32) (I : iq_I) (X : iq_X) {n : Nat} {v : Int32 × iq_J} {w : iq_J} (h : zM_ways_l168 x1 x2 x4 I n v = some w) (r : iq_R × iq_M) (hq : iq_Gg 2 277 (197, [some (.ref 76), some (.int x1), some (.int x2), none, some (.int x4), none, none], [], (iq_sh l, I, w, X)) r) : iq_Gg 2 277 (168, [some (.ref 76), some (.int x1), some (.int x2), none, some (.int x4), some (.int v.1), none], [], (iq_sh l, I, v.2, X)) r :=
  iq_lp_ok (σ := fun v => (168, [some (.ref 76), some (.int x1), some (.int x2), none, some (.int x4), some (.int v.1), none], [], (iq_sh l, I, v.2, X))) (Q := fun w r => iq_Gg 2 277 (197, [some (.ref 76), some (.int x1), some (.int x2), none, some (.int x4), none, none], [], (iq_sh l, I, w, X)) r) (fun v q hv r h1 h2 => zM_ways_l168_bok l x1 x2 x4 I X v.1 v.2 hv r h1 h2) h r hq
set_option maxRecDepth 100000 in
theorem zM_ways_l80_bok (l : Nat)  (x1 : Int32) (x2 : Int32) (I : iq_I) (X : iq_X) (x4 : Int32) (J : iq_J) {q : (Int32 × iq_J) ⊕ (iq_J)} (h : zM_ways_l80_b x1 x2 I x4 J = some q) (r : iq_R × iq_M) (hc : ∀ v, q = .inl v → iq_Gg 2 277 (80, [some (.ref 76), some (.int x1), some (.int x2), none, some (.int v.1), none, none], [], (iq_sh l, I, v.2, X)) r) (hx : ∀ w, q = .inr w → iq_Gg 2 277 (203, [some (.ref 76), some (.int x1), none, none, none, none, none], [], (iq_sh l, I, w, X)) r) : iq_Gg 2 277 (80, [some (.ref 76), some (.int x1), some (.int x2), none, some (.int x4), none, none], [], (iq_sh l, I, J, X)) r := by
  unfold zM_ways_l80_b at h
  refine iq_G_go (k := 2) (σ' := (83, [some (.ref 76), some (.int x1), some (.int x2), none, some (.int x4), none, none], [.int x2, .int x4], (iq_sh l, I, J, X))) (fun _ => rfl) ?_
  rcases iq_ite h with ⟨hc_, h⟩ | ⟨hc_, h⟩
  · refine iq_G_pos (c := x2 ≤ x4) (σ1 := (203, [some (.ref 76), some (.int x1), some (.int x2), none, some (.int x4), none, none], [], (iq_sh l, I, J, X))) (fun _ => rfl) hc_ ?_
    cases h
    exact iq_G_fg (L := [some (.ref 76), some (.int x1), none, none, none, none, none]) (And.intro rfl (And.intro rfl trivial)) (hx J rfl)
  · refine iq_G_neg (c := x2 ≤ x4) (σ1 := (86, [some (.ref 76), some (.int x1), some (.int x2), none, some (.int x4), none, none], [], (iq_sh l, I, J, X))) (fun _ => rfl) hc_ ?_
    refine iq_G_go (k := 2) (σ' := (89, [some (.ref 76), some (.int x1), some (.int x2), none, some (.int x4), some (.int (0 : Int32)), none], [], (iq_sh l, I, J, X))) (fun _ => rfl) ?_
    obtain ⟨w12, hw12, h⟩ := iq_bnd h
    refine iq_G_fg (L := [some (.ref 76), some (.int x1), some (.int x2), none, some (.int x4), some (.int (0 : Int32)), none]) (And.intro rfl (And.intro rfl (And.intro rfl (And.intro rfl (And.intro rfl trivial))))) ?_
    refine zM_ways_l89_ok l x1 x2 x4 I X hw12 _ ?_
    show iq_Gg 2 277 (165, [some (.ref 76), some (.int x1), some (.int x2), none, some (.int x4), none, none], [], (iq_sh l, I, w12, X)) _
    refine iq_G_go (k := 2) (σ' := (168, [some (.ref 76), some (.int x1), some (.int x2), none, some (.int x4), some (.int (0 : Int32)), none], [], (iq_sh l, I, w12, X))) (fun _ => rfl) ?_
    obtain ⟨w14, hw14, h⟩ := iq_bnd h
    refine iq_G_fg (L := [some (.ref 76), some (.int x1), some (.int x2), none, some (.int x4), some (.int (0 : Int32)), none]) (And.intro rfl (And.intro rfl (And.intro rfl (And.intro rfl (And.intro rfl trivial))))) ?_
    refine zM_ways_l168_ok l x1 x2 x4 I X hw14 _ ?_
    show iq_Gg 2 277 (197, [some (.ref 76), some (.int x1), some (.int x2), none, some (.int x4), none, none], [], (iq_sh l, I, w14, X)) _
    refine iq_G_go (k := 2) (σ' := (80, [some (.ref 76), some (.int x1), some (.int x2), none, some (.int (x4 + (1 : Int32))), none, none], [], (iq_sh l, I, w14, X))) (fun _ => rfl) ?_
    cases h
    exact iq_G_fg (L := [some (.ref 76), some (.int x1), some (.int x2), none, some (.int (x4 + (1 : Int32))), none, none]) (And.intro rfl (And.intro rfl (And.intro rfl (And.intro rfl trivial)))) (hc ((x4 + (1 : Int32)), w14) rfl)
set_option maxRecDepth 100000 in
theorem zM_ways_l80_ok (l : Nat)  (x1 : Int32) (x2 : Int32) (I : iq_I) (X : iq_X) {n : Nat} {v : Int32 × iq_J} {w : iq_J} (h : zM_ways_l80 x1 x2 I n v = some w) (r : iq_R × iq_M) (hq : iq_Gg 2 277 (203, [some (.ref 76), some (.int x1), none, none, none, none, none], [], (iq_sh l, I, w, X)) r) : iq_Gg 2 277 (80, [some (.ref 76), some (.int x1), some (.int x2), none, some (.int v.1), none, none], [], (iq_sh l, I, v.2, X)) r :=
  iq_lp_ok (σ := fun v => (80, [some (.ref 76), some (.int x1), some (.int x2), none, some (.int v.1), none, none], [], (iq_sh l, I, v.2, X))) (Q := fun w r => iq_Gg 2 277 (203, [some (.ref 76), some (.int x1), none, none, none, none, none], [], (iq_sh l, I, w, X)) r) (fun v q hv r h1 h2 => zM_ways_l80_bok l x1 x2 I X v.1 v.2 hv r h1 h2) h r hq
set_option maxRecDepth 100000 in
theorem zM_ways_ok (l : Nat)  (x1 : Int32) (x2 : Int32) (x3 : Int32) (I : iq_I) (J : iq_J) (X : iq_X) {q : Int64 × iq_I × iq_J} (h : zM_ways x1 x2 x3 I J = some q) : iq_Cc 3 277 [.ref 76, .int x1, .int x2, .int x3] (iq_sh l, I, J, X) (.inl (some (.long q.1)), (iq_sh l, q.2.1, q.2.2, X)) := by
  refine iq_Cc_of (L := [some (.ref 76), some (.int x1), some (.int x2), some (.int x3), none, none, none]) rfl rfl ?_
  unfold zM_ways at h
  refine iq_G_go (k := 2) (σ' := (2, [some (.ref 76), some (.int x1), some (.int x2), some (.int x3), none, none, none], [.int (0 : Int32), .ref 76], (iq_sh l, I, J, X))) (fun _ => rfl) ?_
  refine iq_G_go (k := 1) (σ' := (5, [some (.ref 76), some (.int x1), some (.int x2), some (.int x3), none, none, none], [], (iq_sh l, (iq_upI I 76 0 (0 : Int32)), J, X))) (fun _ => rfl) ?_
  obtain ⟨I1, eI1, h⟩ := ir_letG h
  rw [← eI1]
  clear eI1
  refine iq_G_go (k := 2) (σ' := (7, [some (.ref 76), some (.int x1), some (.int x2), some (.int x3), none, none, none], [.int x1, .ref 76], (iq_sh l, I1, J, X))) (fun _ => rfl) ?_
  obtain ⟨q2, hq2, h⟩ := iq_bnd h
  refine iq_G_call (σ' := (10, [some (.ref 76), some (.int x1), some (.int x2), some (.int x3), none, none, none], [.int q2.1], (iq_sh l, q2.2, J, X))) (fun _ => rfl) (zM_isState_ok l x1 I1 J X hq2) rfl rfl ?_
  rcases iq_ite h with ⟨hc_, h⟩ | ⟨hc_, h⟩
  · refine iq_G_pos (c := q2.1 = 0) (σ1 := (28, [some (.ref 76), some (.int x1), some (.int x2), some (.int x3), none, none, none], [], (iq_sh l, q2.2, J, X))) (fun _ => rfl) hc_ ?_
    refine iq_G_go (k := 1) (σ' := (29, [some (.ref 76), some (.int x1), some (.int x2), some (.int x3), none, none, none], [.long (0 : Int64)], (iq_sh l, q2.2, J, X))) (fun _ => rfl) ?_
    cases h
    exact iq_G_ret (fun _ => rfl)
  · refine iq_G_neg (c := q2.1 = 0) (σ1 := (13, [some (.ref 76), some (.int x1), some (.int x2), some (.int x3), none, none, none], [], (iq_sh l, q2.2, J, X))) (fun _ => rfl) hc_ ?_
    refine iq_G_go (k := 4) (σ' := (18, [some (.ref 76), some (.int x1), some (.int x2), some (.int x3), none, none, none], [.int (12 : Int32), .int (0 : Int32), .int x2, .ref 76], (iq_sh l, q2.2, J, X))) (fun _ => rfl) ?_
    obtain ⟨q3, hq3, h⟩ := iq_bnd h
    refine iq_G_call (σ' := (21, [some (.ref 76), some (.int x1), some (.int x2), some (.int x3), none, none, none], [.int q3, .ref 76], (iq_sh l, q2.2, J, X))) (fun _ => rfl) (zM_within_ok l x2 (0 : Int32) (12 : Int32) q2.2 J X hq3) rfl rfl ?_
    refine iq_G_go (k := 1) (σ' := (22, [some (.ref 76), some (.int x1), some (.int x2), some (.int x3), none, none, none], [.int (2 : Int32), .int q3, .ref 76], (iq_sh l, q2.2, J, X))) (fun _ => rfl) ?_
    obtain ⟨q4, hq4, h⟩ := iq_bnd h
    refine iq_G_call (σ' := (25, [some (.ref 76), some (.int x1), some (.int x2), some (.int x3), none, none, none], [.int q4.1], (iq_sh l, q4.2, J, X))) (fun _ => rfl) (zM_right_ok l q3 (2 : Int32) q2.2 J X hq4) rfl rfl ?_
    rcases iq_ite h with ⟨hc_, h⟩ | ⟨hc_, h⟩
    · refine iq_G_pos (c := ¬ q4.1 = 0) (σ1 := (30, [some (.ref 76), some (.int x1), some (.int x2), some (.int x3), none, none, none], [], (iq_sh l, q4.2, J, X))) (fun _ => rfl) hc_ ?_
      refine iq_G_go (k := 2) (σ' := (33, [some (.ref 76), some (.int x1), some (.int x2), some (.int x3), some (.int (0 : Int32)), none, none], [], (iq_sh l, q4.2, J, X))) (fun _ => rfl) ?_
      obtain ⟨w6, hw6, h⟩ := iq_bnd h
      refine iq_G_fg (L := [some (.ref 76), some (.int x1), some (.int x2), some (.int x3), some (.int (0 : Int32)), none, none]) (And.intro rfl (And.intro rfl (And.intro rfl (And.intro rfl (And.intro rfl trivial))))) ?_
      refine zM_ways_l33_ok l x1 x2 x3 q4.2 X hw6 _ ?_
      show iq_Gg 2 277 (77, [some (.ref 76), some (.int x1), some (.int x2), none, none, none, none], [], (iq_sh l, q4.2, w6, X)) _
      refine iq_G_go (k := 2) (σ' := (80, [some (.ref 76), some (.int x1), some (.int x2), none, some (.int (0 : Int32)), none, none], [], (iq_sh l, q4.2, w6, X))) (fun _ => rfl) ?_
      obtain ⟨w15, hw15, h⟩ := iq_bnd h
      refine iq_G_fg (L := [some (.ref 76), some (.int x1), some (.int x2), none, some (.int (0 : Int32)), none, none]) (And.intro rfl (And.intro rfl (And.intro rfl (And.intro rfl trivial)))) ?_
      refine zM_ways_l80_ok l x1 x2 q4.2 X hw15 _ ?_
      show iq_Gg 2 277 (203, [some (.ref 76), some (.int x1), none, none, none, none, none], [], (iq_sh l, q4.2, w15, X)) _
      refine iq_G_go (k := 3) (σ' := (208, [some (.ref 76), some (.int x1), none, none, none, none, none], [.int x1, .ref 104], (iq_sh l, q4.2, w15, X))) (fun _ => rfl) ?_
      obtain ⟨hc_, h⟩ := iq_itn h
      refine iq_G_pos (c := iq_in x1 10) (σ1 := (209, [some (.ref 76), some (.int x1), none, none, none, none, none], [.long (w15 104 (Int32.toNatClampNeg x1))], (iq_sh l, q4.2, w15, X))) (fun _ => rfl) hc_ ?_
      cases h
      exact iq_G_ret (fun _ => rfl)
    · refine iq_G_neg (c := ¬ q4.1 = 0) (σ1 := (28, [some (.ref 76), some (.int x1), some (.int x2), some (.int x3), none, none, none], [], (iq_sh l, q4.2, J, X))) (fun _ => rfl) hc_ ?_
      refine iq_G_go (k := 1) (σ' := (29, [some (.ref 76), some (.int x1), some (.int x2), some (.int x3), none, none, none], [.long (0 : Int64)], (iq_sh l, q4.2, J, X))) (fun _ => rfl) ?_
      cases h
      exact iq_G_ret (fun _ => rfl)
set_option maxRecDepth 100000 in
theorem zP_longestWithin_l5_bok (l : Nat)  (x1 : Int32) (x2 : Int32) (I : iq_I) (J : iq_J) (X : iq_X) (x3 : Int32) (x4 : Int32)  {q : (Int32 × Int32) ⊕ ((Unit) ⊕ (Int32))} (h : zP_longestWithin_l5_b x1 x2 I x3 x4 = some q) (r : iq_R × iq_M) (hc : ∀ v, q = .inl v → iq_Gg 1 58 (5, [some (.ref 63), some (.int x1), some (.int x2), some (.int v.1), some (.int v.2)], [], (iq_sh l, I, J, X)) r) (hx : ∀ w, q = .inr w → (∀ a, w = .inl a → iq_Gg 1 58 (43, [none, none, none, none, none], [], (iq_sh l, I, J, X)) r) ∧ (∀ b, w = .inr b → r = (.inl (some (.int b)), (iq_sh l, I, J, X)))) : iq_Gg 1 58 (5, [some (.ref 63), some (.int x1), some (.int x2), some (.int x3), some (.int x4)], [], (iq_sh l, I, J, X)) r := by
  unfold zP_longestWithin_l5_b at h
  refine iq_G_go (k := 4) (σ' := (14, [some (.ref 63), some (.int x1), some (.int x2), some (.int x3), some (.int x4)], [.int (I 4 0), .int x4], (iq_sh l, I, J, X))) (fun _ => rfl) ?_
  rcases iq_ite h with ⟨hc_, h⟩ | ⟨hc_, h⟩
  · refine iq_G_pos (c := (I 4 0) < x4) (σ1 := (43, [some (.ref 63), some (.int x1), some (.int x2), some (.int x3), some (.int x4)], [], (iq_sh l, I, J, X))) (fun _ => rfl) hc_ ?_
    cases h
    exact iq_G_fg (L := [none, none, none, none, none]) trivial ((hx (.inl ()) rfl).1 () rfl)
  · refine iq_G_neg (c := (I 4 0) < x4) (σ1 := (17, [some (.ref 63), some (.int x1), some (.int x2), some (.int x3), some (.int x4)], [], (iq_sh l, I, J, X))) (fun _ => rfl) hc_ ?_
    refine iq_G_go (k := 3) (σ' := (20, [some (.ref 63), some (.int x1), some (.int x2), some (.int x3), some (.int x4)], [.int x3, .int x2, .ref 63], (iq_sh l, I, J, X))) (fun _ => rfl) ?_
    obtain ⟨q1, hq1, h⟩ := iq_bnd h
    refine iq_G_call (σ' := (23, [some (.ref 63), some (.int x1), some (.int x2), some (.int x3), some (.int x4)], [.int q1], (iq_sh l, I, J, X))) (fun _ => rfl) (zP_leadingInto_ok l x2 x3 I J X hq1) rfl rfl ?_
    refine iq_G_go (k := 6) (σ' := (29, [some (.ref 63), some (.int x1), some (.int x2), some (.int q1), some (.int x4)], [.int ((q1 >>> (x1 &&& 31)) &&& (1 : Int32))], (iq_sh l, I, J, X))) (fun _ => rfl) ?_
    rcases iq_ite h with ⟨hc_, h⟩ | ⟨hc_, h⟩
    · refine iq_G_pos (c := ¬ ((q1 >>> (x1 &&& 31)) &&& (1 : Int32)) = 0) (σ1 := (37, [some (.ref 63), some (.int x1), some (.int x2), some (.int q1), some (.int x4)], [], (iq_sh l, I, J, X))) (fun _ => rfl) hc_ ?_
      refine iq_G_go (k := 2) (σ' := (5, [some (.ref 63), some (.int x1), some (.int x2), some (.int q1), some (.int (x4 + (1 : Int32)))], [], (iq_sh l, I, J, X))) (fun _ => rfl) ?_
      cases h
      exact iq_G_fg (L := [some (.ref 63), some (.int x1), some (.int x2), some (.int q1), some (.int (x4 + (1 : Int32)))]) (And.intro rfl (And.intro rfl (And.intro rfl (And.intro rfl (And.intro rfl trivial))))) (hc (q1, (x4 + (1 : Int32))) rfl)
    · refine iq_G_neg (c := ¬ ((q1 >>> (x1 &&& 31)) &&& (1 : Int32)) = 0) (σ1 := (32, [some (.ref 63), some (.int x1), some (.int x2), some (.int q1), some (.int x4)], [], (iq_sh l, I, J, X))) (fun _ => rfl) hc_ ?_
      refine iq_G_go (k := 3) (σ' := (36, [some (.ref 63), some (.int x1), some (.int x2), some (.int q1), some (.int x4)], [.int (x4 - (1 : Int32))], (iq_sh l, I, J, X))) (fun _ => rfl) ?_
      cases h
      obtain rfl := (hx _ rfl).2 _ rfl
      exact iq_G_ret (fun _ => rfl)
set_option maxRecDepth 100000 in
theorem zP_longestWithin_l5_ok (l : Nat)  (x1 : Int32) (x2 : Int32) (I : iq_I) (J : iq_J) (X : iq_X) {n : Nat} {v : Int32 × Int32} {w : (Unit) ⊕ (Int32)} (h : zP_longestWithin_l5 x1 x2 I n v = some w) (r : iq_R × iq_M) (hq : (∀ a, w = .inl a → iq_Gg 1 58 (43, [none, none, none, none, none], [], (iq_sh l, I, J, X)) r) ∧ (∀ b, w = .inr b → r = (.inl (some (.int b)), (iq_sh l, I, J, X)))) : iq_Gg 1 58 (5, [some (.ref 63), some (.int x1), some (.int x2), some (.int v.1), some (.int v.2)], [], (iq_sh l, I, J, X)) r :=
  iq_lp_ok (σ := fun v => (5, [some (.ref 63), some (.int x1), some (.int x2), some (.int v.1), some (.int v.2)], [], (iq_sh l, I, J, X))) (Q := fun w r => (∀ a, w = .inl a → iq_Gg 1 58 (43, [none, none, none, none, none], [], (iq_sh l, I, J, X)) r) ∧ (∀ b, w = .inr b → r = (.inl (some (.int b)), (iq_sh l, I, J, X)))) (fun v q hv r h1 h2 => zP_longestWithin_l5_bok l x1 x2 I J X v.1 v.2 hv r h1 h2) h r hq
set_option maxRecDepth 100000 in
theorem zP_longestWithin_ok (l : Nat)  (x1 : Int32) (x2 : Int32) (I : iq_I) (J : iq_J) (X : iq_X) {q : Int32} (h : zP_longestWithin x1 x2 I = some q) : iq_Cc 2 58 [.ref 63, .int x1, .int x2] (iq_sh l, I, J, X) (.inl (some (.int q)), (iq_sh l, I, J, X)) := by
  refine iq_Cc_of (L := [some (.ref 63), some (.int x1), some (.int x2), none, none]) rfl rfl ?_
  unfold zP_longestWithin at h
  refine iq_G_go (k := 4) (σ' := (5, [some (.ref 63), some (.int x1), some (.int x2), some (.int x2), some (.int (1 : Int32))], [], (iq_sh l, I, J, X))) (fun _ => rfl) ?_
  obtain ⟨w2, hw2, h⟩ := iq_bnd h
  refine iq_G_fg (L := [some (.ref 63), some (.int x1), some (.int x2), some (.int x2), some (.int (1 : Int32))]) (And.intro rfl (And.intro rfl (And.intro rfl (And.intro rfl (And.intro rfl trivial))))) ?_
  refine zP_longestWithin_l5_ok l x1 x2 I J X hw2 _ ⟨fun a3 ha => ?_, fun b4 hb => ?_⟩
  · subst ha
    replace h := ir_smL h
    show iq_Gg 1 58 (43, [none, none, none, none, none], [], (iq_sh l, I, J, X)) _
    refine iq_G_go (k := 1) (σ' := (44, [none, none, none, none, none], [.int (-1 : Int32)], (iq_sh l, I, J, X))) (fun _ => rfl) ?_
    cases h
    exact iq_G_ret (fun _ => rfl)
  · subst hb
    replace h := ir_smR h
    cases h
    rfl
set_option maxRecDepth 100000 in
theorem zP_mustEnd_ok (l : Nat)  (x1 : Int32) (I : iq_I) (J : iq_J) (X : iq_X) {q : Int32 × iq_I} (h : zP_mustEnd x1 I = some q) : iq_Cc 3 60 [.ref 63, .int x1] (iq_sh l, I, J, X) (.inl (some (.int q.1)), (iq_sh l, q.2, J, X)) := by
  refine iq_Cc_of (L := [some (.ref 63), some (.int x1), none]) rfl rfl ?_
  unfold zP_mustEnd at h
  refine iq_G_go (k := 7) (σ' := (11, [some (.ref 63), some (.int x1), none], [.int (((I 4 1) >>> (x1 &&& 31)) &&& (1 : Int32))], (iq_sh l, I, J, X))) (fun _ => rfl) ?_
  rcases iq_ite h with ⟨hc_, h⟩ | ⟨hc_, h⟩
  · refine iq_G_pos (c := (((I 4 1) >>> (x1 &&& 31)) &&& (1 : Int32)) = 0) (σ1 := (16, [some (.ref 63), some (.int x1), none], [], (iq_sh l, I, J, X))) (fun _ => rfl) hc_ ?_
    refine iq_G_go (k := 2) (σ' := (18, [some (.ref 63), some (.int x1), none], [.int (0 : Int32), .ref 63], (iq_sh l, I, J, X))) (fun _ => rfl) ?_
    obtain ⟨q1, hq1, h⟩ := iq_bnd h
    refine iq_G_call (σ' := (21, [some (.ref 63), some (.int x1), none], [], (iq_sh l, q1, J, X))) (fun _ => rfl) (zP_lookBehind_ok l (0 : Int32) I J X hq1) rfl rfl ?_
    refine iq_G_go (k := 3) (σ' := (24, [some (.ref 63), some (.int x1), none], [.ref 63, .int x1, .ref 63], (iq_sh l, q1, J, X))) (fun _ => rfl) ?_
    obtain ⟨q2, hq2, h⟩ := iq_bnd h
    refine iq_G_call (σ' := (27, [some (.ref 63), some (.int x1), none], [.int q2, .int x1, .ref 63], (iq_sh l, q1, J, X))) (fun _ => rfl) (zP_allStates_ok l  q1 J X hq2) rfl rfl ?_
    refine iq_G_go (k := 6) (σ' := (37, [some (.ref 63), some (.int x1), none], [.int (q2 &&& ((q1 4 1) ^^^ (-1 : Int32))), .int x1, .ref 63], (iq_sh l, q1, J, X))) (fun _ => rfl) ?_
    obtain ⟨q3, hq3, h⟩ := iq_bnd h
    refine iq_G_call (σ' := (40, [some (.ref 63), some (.int x1), none], [.int q3], (iq_sh l, q1, J, X))) (fun _ => rfl) (zP_longestWithin_ok l x1 (q2 &&& ((q1 4 1) ^^^ (-1 : Int32))) q1 J X hq3) rfl rfl ?_
    refine iq_G_go (k := 3) (σ' := (43, [some (.ref 63), some (.int x1), some (.int q3)], [.int (-1 : Int32), .int q3], (iq_sh l, q1, J, X))) (fun _ => rfl) ?_
    rcases iq_ite h with ⟨hc_, h⟩ | ⟨hc_, h⟩
    · refine iq_G_pos (c := ¬ q3 = (-1 : Int32)) (σ1 := (50, [some (.ref 63), some (.int x1), some (.int q3)], [], (iq_sh l, q1, J, X))) (fun _ => rfl) hc_ ?_
      refine iq_G_go (k := 3) (σ' := (53, [some (.ref 63), some (.int x1), some (.int q3)], [.int (q3 + (1 : Int32))], (iq_sh l, q1, J, X))) (fun _ => rfl) ?_
      cases h
      exact iq_G_ret (fun _ => rfl)
    · refine iq_G_neg (c := ¬ q3 = (-1 : Int32)) (σ1 := (46, [some (.ref 63), some (.int x1), some (.int q3)], [], (iq_sh l, q1, J, X))) (fun _ => rfl) hc_ ?_
      refine iq_G_go (k := 2) (σ' := (53, [some (.ref 63), some (.int x1), some (.int q3)], [.int (-1 : Int32)], (iq_sh l, q1, J, X))) (fun _ => rfl) ?_
      cases h
      exact iq_G_ret (fun _ => rfl)
  · refine iq_G_neg (c := (((I 4 1) >>> (x1 &&& 31)) &&& (1 : Int32)) = 0) (σ1 := (14, [some (.ref 63), some (.int x1), none], [], (iq_sh l, I, J, X))) (fun _ => rfl) hc_ ?_
    refine iq_G_go (k := 1) (σ' := (15, [some (.ref 63), some (.int x1), none], [.int (0 : Int32)], (iq_sh l, I, J, X))) (fun _ => rfl) ?_
    cases h
    exact iq_G_ret (fun _ => rfl)
set_option maxRecDepth 100000 in
theorem zO_must_ok (l : Nat)  (x1 : Int32) (I : iq_I) (J : iq_J) (X : iq_X) {q : (Int32 ⊕ Nat) × iq_I × iq_X} (h : zO_must x1 I X = some q) : iq_Cc 4 165 [.ref 1, .int x1] (iq_sh l, I, J, X) ((ir_Ri q.1), (iq_sh l, q.2.1, J, q.2.2)) := by
  refine iq_Cc_of (L := [some (.ref 1), some (.int x1)]) rfl rfl ?_
  unfold zO_must at h
  refine iq_G_go (k := 2) (σ' := (2, [some (.ref 1), some (.int x1)], [.int x1, .ref 1], (iq_sh l, I, J, X))) (fun _ => rfl) ?_
  obtain ⟨q1, hq1, h⟩ := iq_bnd h
  have hC := (zO_needState_ok l x1 I J X hq1)
  rcases iq_smc h with ⟨a2, ha, h⟩ | ⟨k3, ha, h⟩
  · rw [ha] at hC
    refine iq_G_call (σ' := (5, [some (.ref 1), some (.int x1)], [], (iq_sh l, I, J, q1.2))) (fun _ => rfl) hC rfl rfl ?_
    refine iq_G_go (k := 3) (σ' := (10, [some (.ref 1), some (.int x1)], [.int x1, .ref 63], (iq_sh l, I, J, q1.2))) (fun _ => rfl) ?_
    obtain ⟨q4, hq4, h⟩ := iq_bnd h
    refine iq_G_call (σ' := (13, [some (.ref 1), some (.int x1)], [.int q4.1], (iq_sh l, q4.2, J, q1.2))) (fun _ => rfl) (zP_mustEnd_ok l x1 I J q1.2 hq4) rfl rfl ?_
    cases h
    exact iq_G_ret (fun _ => rfl)
  · rw [ha] at hC
    cases h
    exact iq_G_callx (fun _ => rfl) hC rfl rfl
set_option maxRecDepth 100000 in
theorem zL_must_ok (l : Nat)  (x1 : Int32) (I : iq_I) (J : iq_J) (X : iq_X) {q : Int32 × iq_I × iq_J × iq_X} (h : zL_must x1 I J X = some q) : iq_Cc 5 337 [.ref 1, .int x1, .ref 114] (iq_sh l, I, J, X) (.inl (some (.int q.1)), (iq_sh l, q.2.1, q.2.2.1, q.2.2.2)) := by
  refine iq_Cc_of (L := [some (.ref 1), some (.int x1), some (.ref 114), none]) rfl rfl ?_
  unfold zL_must at h
  refine iq_G_go (k := 4) (σ' := (4, [some (.ref 1), some (.int x1), some (.ref 114), none], [.int x1, .ref 1, .int (0 : Int32), .ref 114], (iq_sh l, I, J, X))) (fun _ => rfl) ?_
  obtain ⟨q1, hq1, h⟩ := iq_bnd h
  have hC := (zO_must_ok l x1 I J X hq1)
  rcases iq_smc h with ⟨a2, ha, h⟩ | ⟨k3, ha, h⟩
  · rw [ha] at hC
    refine iq_G_call (σ' := (7, [some (.ref 1), some (.int x1), some (.ref 114), none], [.int a2, .int (0 : Int32), .ref 114], (iq_sh l, q1.2.1, J, q1.2.2))) (fun _ => rfl) hC rfl rfl ?_
    refine iq_G_go (k := 1) (σ' := (8, [some (.ref 1), some (.int x1), some (.ref 114), none], [.long (Int32.toInt64 a2), .int (0 : Int32), .ref 114], (iq_sh l, q1.2.1, J, q1.2.2))) (fun _ => rfl) ?_
    refine iq_G_go (k := 1) (σ' := (9, [some (.ref 1), some (.int x1), some (.ref 114), none], [], (iq_sh l, q1.2.1, (iq_upJ J 114 0 (Int32.toInt64 a2)), q1.2.2))) (fun _ => rfl) ?_
    obtain ⟨J4, eJ4, h⟩ := ir_letG h
    rw [← eJ4]
    clear eJ4
    refine iq_G_go (k := 2) (σ' := (16, [some (.ref 1), some (.int x1), some (.ref 114), none], [.int (0 : Int32)], (iq_sh l, q1.2.1, J4, q1.2.2))) (fun _ => rfl) ?_
    cases h
    exact iq_G_ret (fun _ => rfl)
  · rw [ha] at hC
    rcases iq_ite h with ⟨e, h⟩ | ⟨_, h⟩
    · subst e
      refine iq_G_call (σ' := (13, [some (.ref 1), some (.int x1), some (.ref 114), none], [], (iq_sh l, q1.2.1, J, q1.2.2))) (fun _ => rfl) hC rfl rfl ?_
      refine iq_G_go (k := 1) (σ' := (14, [some (.ref 1), some (.int x1), some (.ref 114), none], [.int (1 : Int32)], (iq_sh l, q1.2.1, J, q1.2.2))) (fun _ => rfl) ?_
      cases h
      exact iq_G_ret (fun _ => rfl)
    · obtain ⟨e, h⟩ := iq_itn h
      cases h
set_option maxRecDepth 100000 in
theorem zM_must_l28_bok (l : Nat)   (I : iq_I) (J : iq_J) (X : iq_X) (x2 : Int32) (x3 : Int32)  {q : (Int32 × Int32) ⊕ ((Unit) ⊕ (Int32 × iq_I))} (h : zM_must_l28_b I x2 x3 = some q) (r : iq_R × iq_M) (hc : ∀ v, q = .inl v → iq_Gg 3 276 (28, [some (.ref 76), none, some (.int v.1), some (.int v.2)], [], (iq_sh l, I, J, X)) r) (hx : ∀ w, q = .inr w → (∀ a, w = .inl a → iq_Gg 3 276 (59, [none, none, none, none], [], (iq_sh l, I, J, X)) r) ∧ (∀ b, w = .inr b → r = (.inl (some (.int b.1)), (iq_sh l, b.2, J, X)))) : iq_Gg 3 276 (28, [some (.ref 76), none, some (.int x2), some (.int x3)], [], (iq_sh l, I, J, X)) r := by
  unfold zM_must_l28_b at h
  refine iq_G_go (k := 2) (σ' := (31, [some (.ref 76), none, some (.int x2), some (.int x3)], [.int (40 : Int32), .int x3], (iq_sh l, I, J, X))) (fun _ => rfl) ?_
  rcases iq_ite h with ⟨hc_, h⟩ | ⟨hc_, h⟩
  · refine iq_G_pos (c := (40 : Int32) < x3) (σ1 := (59, [some (.ref 76), none, some (.int x2), some (.int x3)], [], (iq_sh l, I, J, X))) (fun _ => rfl) hc_ ?_
    cases h
    exact iq_G_fg (L := [none, none, none, none]) trivial ((hx (.inl ()) rfl).1 () rfl)
  · refine iq_G_neg (c := (40 : Int32) < x3) (σ1 := (34, [some (.ref 76), none, some (.int x2), some (.int x3)], [], (iq_sh l, I, J, X))) (fun _ => rfl) hc_ ?_
    refine iq_G_go (k := 1) (σ' := (35, [some (.ref 76), none, some (.int x2), some (.int x3)], [.int x2], (iq_sh l, I, J, X))) (fun _ => rfl) ?_
    rcases iq_ite h with ⟨hc_, h⟩ | ⟨hc_, h⟩
    · refine iq_G_pos (c := ¬ x2 = 0) (σ1 := (40, [some (.ref 76), none, some (.int x2), some (.int x3)], [], (iq_sh l, I, J, X))) (fun _ => rfl) hc_ ?_
      refine iq_G_go (k := 2) (σ' := (42, [some (.ref 76), none, some (.int x2), some (.int x3)], [.int x2, .ref 76], (iq_sh l, I, J, X))) (fun _ => rfl) ?_
      obtain ⟨q3, hq3, h⟩ := iq_bnd h
      refine iq_G_call (σ' := (45, [some (.ref 76), none, some (.int x2), some (.int x3)], [.int q3], (iq_sh l, I, J, X))) (fun _ => rfl) (zM_onward_ok l x2 I J X hq3) rfl rfl ?_
      refine iq_G_go (k := 8) (σ' := (28, [some (.ref 76), none, some (.int (q3 &&& ((I 76 7) ^^^ (-1 : Int32)))), some (.int (x3 + (1 : Int32)))], [], (iq_sh l, I, J, X))) (fun _ => rfl) ?_
      cases h
      exact iq_G_fg (L := [some (.ref 76), none, some (.int (q3 &&& ((I 76 7) ^^^ (-1 : Int32)))), some (.int (x3 + (1 : Int32)))]) (And.intro rfl (And.intro rfl (And.intro rfl trivial))) (hc ((q3 &&& ((I 76 7) ^^^ (-1 : Int32))), (x3 + (1 : Int32))) rfl)
    · refine iq_G_neg (c := ¬ x2 = 0) (σ1 := (38, [some (.ref 76), none, some (.int x2), some (.int x3)], [], (iq_sh l, I, J, X))) (fun _ => rfl) hc_ ?_
      refine iq_G_go (k := 1) (σ' := (39, [some (.ref 76), none, some (.int x2), some (.int x3)], [.int x3], (iq_sh l, I, J, X))) (fun _ => rfl) ?_
      cases h
      obtain rfl := (hx _ rfl).2 _ rfl
      exact iq_G_ret (fun _ => rfl)
set_option maxRecDepth 100000 in
theorem zM_must_l28_ok (l : Nat)   (I : iq_I) (J : iq_J) (X : iq_X) {n : Nat} {v : Int32 × Int32} {w : (Unit) ⊕ (Int32 × iq_I)} (h : zM_must_l28 I n v = some w) (r : iq_R × iq_M) (hq : (∀ a, w = .inl a → iq_Gg 3 276 (59, [none, none, none, none], [], (iq_sh l, I, J, X)) r) ∧ (∀ b, w = .inr b → r = (.inl (some (.int b.1)), (iq_sh l, b.2, J, X)))) : iq_Gg 3 276 (28, [some (.ref 76), none, some (.int v.1), some (.int v.2)], [], (iq_sh l, I, J, X)) r :=
  iq_lp_ok (σ := fun v => (28, [some (.ref 76), none, some (.int v.1), some (.int v.2)], [], (iq_sh l, I, J, X))) (Q := fun w r => (∀ a, w = .inl a → iq_Gg 3 276 (59, [none, none, none, none], [], (iq_sh l, I, J, X)) r) ∧ (∀ b, w = .inr b → r = (.inl (some (.int b.1)), (iq_sh l, b.2, J, X)))) (fun v q hv r h1 h2 => zM_must_l28_bok l I J X v.1 v.2 hv r h1 h2) h r hq
set_option maxRecDepth 100000 in
theorem zM_must_ok (l : Nat)  (x1 : Int32) (I : iq_I) (J : iq_J) (X : iq_X) {q : Int32 × iq_I} (h : zM_must x1 I = some q) : iq_Cc 4 276 [.ref 76, .int x1] (iq_sh l, I, J, X) (.inl (some (.int q.1)), (iq_sh l, q.2, J, X)) := by
  refine iq_Cc_of (L := [some (.ref 76), some (.int x1), none, none]) rfl rfl ?_
  unfold zM_must at h
  refine iq_G_go (k := 2) (σ' := (2, [some (.ref 76), some (.int x1), none, none], [.int (0 : Int32), .ref 76], (iq_sh l, I, J, X))) (fun _ => rfl) ?_
  refine iq_G_go (k := 1) (σ' := (5, [some (.ref 76), some (.int x1), none, none], [], (iq_sh l, (iq_upI I 76 0 (0 : Int32)), J, X))) (fun _ => rfl) ?_
  obtain ⟨I1, eI1, h⟩ := ir_letG h
  rw [← eI1]
  clear eI1
  refine iq_G_go (k := 2) (σ' := (7, [some (.ref 76), some (.int x1), none, none], [.int x1, .ref 76], (iq_sh l, I1, J, X))) (fun _ => rfl) ?_
  obtain ⟨q2, hq2, h⟩ := iq_bnd h
  refine iq_G_call (σ' := (10, [some (.ref 76), some (.int x1), none, none], [.int q2.1], (iq_sh l, q2.2, J, X))) (fun _ => rfl) (zM_isState_ok l x1 I1 J X hq2) rfl rfl ?_
  rcases iq_ite h with ⟨hc_, h⟩ | ⟨hc_, h⟩
  · refine iq_G_pos (c := ¬ q2.1 = 0) (σ1 := (15, [some (.ref 76), some (.int x1), none, none], [], (iq_sh l, q2.2, J, X))) (fun _ => rfl) hc_ ?_
    refine iq_G_go (k := 11) (σ' := (28, [some (.ref 76), some (.int x1), some (.int (((1 : Int32) <<< (x1 &&& 31)) &&& ((q2.2 76 7) ^^^ (-1 : Int32)))), some (.int (0 : Int32))], [], (iq_sh l, q2.2, J, X))) (fun _ => rfl) ?_
    obtain ⟨w4, hw4, h⟩ := iq_bnd h
    refine iq_G_fg (L := [some (.ref 76), none, some (.int (((1 : Int32) <<< (x1 &&& 31)) &&& ((q2.2 76 7) ^^^ (-1 : Int32)))), some (.int (0 : Int32))]) (And.intro rfl (And.intro rfl (And.intro rfl trivial))) ?_
    refine zM_must_l28_ok l q2.2 J X hw4 _ ⟨fun a5 ha => ?_, fun b6 hb => ?_⟩
    · subst ha
      replace h := ir_smL h
      show iq_Gg 3 276 (59, [none, none, none, none], [], (iq_sh l, q2.2, J, X)) _
      refine iq_G_go (k := 1) (σ' := (60, [none, none, none, none], [.int (-1 : Int32)], (iq_sh l, q2.2, J, X))) (fun _ => rfl) ?_
      cases h
      exact iq_G_ret (fun _ => rfl)
    · subst hb
      replace h := ir_smR h
      cases h
      rfl
  · refine iq_G_neg (c := ¬ q2.1 = 0) (σ1 := (13, [some (.ref 76), some (.int x1), none, none], [], (iq_sh l, q2.2, J, X))) (fun _ => rfl) hc_ ?_
    refine iq_G_go (k := 1) (σ' := (14, [some (.ref 76), some (.int x1), none, none], [.int (0 : Int32)], (iq_sh l, q2.2, J, X))) (fun _ => rfl) ?_
    cases h
    exact iq_G_ret (fun _ => rfl)
set_option maxRecDepth 100000 in
theorem zP_measureToEnds_44_ok (l : Nat)  (x1 : Int32) (x2 : Int32) (s1 : Int32) (s2 : Int32) (I : iq_I) (J : iq_J) (X : iq_X)  {q : (Int32 × iq_I) ⊕ (iq_I)} (h : zP_measureToEnds_44 x1 x2 s1 s2 I = some q) (r : iq_R × iq_M) (hc : ∀ v, q = .inl v → iq_Gg 2 61 (15, [some (.ref 63), some (.int x1), some (.int v.1), none, none], [], (iq_sh l, v.2, J, X)) r) (hx : ∀ w, q = .inr w → iq_Gg 2 61 (51, [some (.ref 63), some (.int x1), none, none, none], [], (iq_sh l, w, J, X)) r) : iq_Gg 2 61 (44, [some (.ref 63), some (.int x1), some (.int x2), none, none], [.int s2, .int s1, .ref 65], (iq_sh l, I, J, X)) r := by
  unfold zP_measureToEnds_44 at h
  obtain ⟨hc_, h⟩ := iq_itn h
  refine iq_G_pos (c := iq_in s1 10) (σ1 := (45, [some (.ref 63), some (.int x1), some (.int x2), none, none], [], (iq_sh l, (iq_upI I 65 (Int32.toNatClampNeg s1) s2), J, X))) (fun _ => rfl) hc_ ?_
  obtain ⟨I2, eI2, h⟩ := ir_letG h
  rw [← eI2]
  clear eI2
  refine iq_G_go (k := 2) (σ' := (15, [some (.ref 63), some (.int x1), some (.int (x2 + (1 : Int32))), none, none], [], (iq_sh l, I2, J, X))) (fun _ => rfl) ?_
  cases h
  exact iq_G_fg (L := [some (.ref 63), some (.int x1), some (.int (x2 + (1 : Int32))), none, none]) (And.intro rfl (And.intro rfl (And.intro rfl trivial))) (hc ((x2 + (1 : Int32)), I2) rfl)
set_option maxRecDepth 100000 in
theorem zP_measureToEnds_l15_bok (l : Nat)  (x1 : Int32) (J : iq_J) (X : iq_X) (x2 : Int32) (I : iq_I) {q : (Int32 × iq_I) ⊕ (iq_I)} (h : zP_measureToEnds_l15_b x1 x2 I = some q) (r : iq_R × iq_M) (hc : ∀ v, q = .inl v → iq_Gg 2 61 (15, [some (.ref 63), some (.int x1), some (.int v.1), none, none], [], (iq_sh l, v.2, J, X)) r) (hx : ∀ w, q = .inr w → iq_Gg 2 61 (51, [some (.ref 63), some (.int x1), none, none, none], [], (iq_sh l, w, J, X)) r) : iq_Gg 2 61 (15, [some (.ref 63), some (.int x1), some (.int x2), none, none], [], (iq_sh l, I, J, X)) r := by
  unfold zP_measureToEnds_l15_b at h
  refine iq_G_go (k := 4) (σ' := (23, [some (.ref 63), some (.int x1), some (.int x2), none, none], [.int (I 4 0), .int x2], (iq_sh l, I, J, X))) (fun _ => rfl) ?_
  rcases iq_ite h with ⟨hc_, h⟩ | ⟨hc_, h⟩
  · refine iq_G_pos (c := (I 4 0) ≤ x2) (σ1 := (51, [some (.ref 63), some (.int x1), some (.int x2), none, none], [], (iq_sh l, I, J, X))) (fun _ => rfl) hc_ ?_
    cases h
    exact iq_G_fg (L := [some (.ref 63), some (.int x1), none, none, none]) (And.intro rfl (And.intro rfl trivial)) (hx I rfl)
  · refine iq_G_neg (c := (I 4 0) ≤ x2) (σ1 := (26, [some (.ref 63), some (.int x1), some (.int x2), none, none], [], (iq_sh l, I, J, X))) (fun _ => rfl) hc_ ?_
    refine iq_G_go (k := 8) (σ' := (36, [some (.ref 63), some (.int x1), some (.int x2), none, none], [.int ((x1 >>> (x2 &&& 31)) &&& (1 : Int32)), .int x2, .ref 65], (iq_sh l, I, J, X))) (fun _ => rfl) ?_
    rcases iq_ite h with ⟨hc_, h⟩ | ⟨hc_, h⟩
    · refine iq_G_pos (c := ((x1 >>> (x2 &&& 31)) &&& (1 : Int32)) = 0) (σ1 := (43, [some (.ref 63), some (.int x1), some (.int x2), none, none], [.int x2, .ref 65], (iq_sh l, I, J, X))) (fun _ => rfl) hc_ ?_
      refine iq_G_go (k := 1) (σ' := (44, [some (.ref 63), some (.int x1), some (.int x2), none, none], [.int (-1 : Int32), .int x2, .ref 65], (iq_sh l, I, J, X))) (fun _ => rfl) ?_
      exact iq_G_fg (L := [some (.ref 63), some (.int x1), some (.int x2), none, none]) (And.intro rfl (And.intro rfl (And.intro rfl trivial))) (zP_measureToEnds_44_ok l x1 x2 x2 (-1 : Int32) I J X  h r hc hx)
    · refine iq_G_neg (c := ((x1 >>> (x2 &&& 31)) &&& (1 : Int32)) = 0) (σ1 := (39, [some (.ref 63), some (.int x1), some (.int x2), none, none], [.int x2, .ref 65], (iq_sh l, I, J, X))) (fun _ => rfl) hc_ ?_
      refine iq_G_go (k := 2) (σ' := (44, [some (.ref 63), some (.int x1), some (.int x2), none, none], [.int (0 : Int32), .int x2, .ref 65], (iq_sh l, I, J, X))) (fun _ => rfl) ?_
      exact iq_G_fg (L := [some (.ref 63), some (.int x1), some (.int x2), none, none]) (And.intro rfl (And.intro rfl (And.intro rfl trivial))) (zP_measureToEnds_44_ok l x1 x2 x2 (0 : Int32) I J X  h r hc hx)
set_option maxRecDepth 100000 in
theorem zP_measureToEnds_l15_ok (l : Nat)  (x1 : Int32) (J : iq_J) (X : iq_X) {n : Nat} {v : Int32 × iq_I} {w : iq_I} (h : zP_measureToEnds_l15 x1 n v = some w) (r : iq_R × iq_M) (hq : iq_Gg 2 61 (51, [some (.ref 63), some (.int x1), none, none, none], [], (iq_sh l, w, J, X)) r) : iq_Gg 2 61 (15, [some (.ref 63), some (.int x1), some (.int v.1), none, none], [], (iq_sh l, v.2, J, X)) r :=
  iq_lp_ok (σ := fun v => (15, [some (.ref 63), some (.int x1), some (.int v.1), none, none], [], (iq_sh l, v.2, J, X))) (Q := fun w r => iq_Gg 2 61 (51, [some (.ref 63), some (.int x1), none, none, none], [], (iq_sh l, w, J, X)) r) (fun v q hv r h1 h2 => zP_measureToEnds_l15_bok l x1 J X v.1 v.2 hv r h1 h2) h r hq
set_option maxRecDepth 100000 in
theorem zP_measureToEnds_l81_bok (l : Nat)  (x1 : Int32) (x2 : Int32) (x3 : Int32) (J : iq_J) (X : iq_X) (x4 : Int32) (I : iq_I) {q : (Int32 × iq_I) ⊕ (iq_I)} (h : zP_measureToEnds_l81_b x1 x2 x3 x4 I = some q) (r : iq_R × iq_M) (hc : ∀ v, q = .inl v → iq_Gg 2 61 (81, [some (.ref 63), some (.int x1), some (.int x2), some (.int x3), some (.int v.1)], [], (iq_sh l, v.2, J, X)) r) (hx : ∀ w, q = .inr w → iq_Gg 2 61 (116, [some (.ref 63), some (.int x1), some (.int x2), some (.int x3), none], [], (iq_sh l, w, J, X)) r) : iq_Gg 2 61 (81, [some (.ref 63), some (.int x1), some (.int x2), some (.int x3), some (.int x4)], [], (iq_sh l, I, J, X)) r := by
  unfold zP_measureToEnds_l81_b at h
  refine iq_G_go (k := 4) (σ' := (90, [some (.ref 63), some (.int x1), some (.int x2), some (.int x3), some (.int x4)], [.int (I 4 0), .int x4], (iq_sh l, I, J, X))) (fun _ => rfl) ?_
  rcases iq_ite h with ⟨hc_, h⟩ | ⟨hc_, h⟩
  · refine iq_G_pos (c := (I 4 0) ≤ x4) (σ1 := (116, [some (.ref 63), some (.int x1), some (.int x2), some (.int x3), some (.int x4)], [], (iq_sh l, I, J, X))) (fun _ => rfl) hc_ ?_
    cases h
    exact iq_G_fg (L := [some (.ref 63), some (.int x1), some (.int x2), some (.int x3), none]) (And.intro rfl (And.intro rfl (And.intro rfl (And.intro rfl trivial)))) (hx I rfl)
  · refine iq_G_neg (c := (I 4 0) ≤ x4) (σ1 := (93, [some (.ref 63), some (.int x1), some (.int x2), some (.int x3), some (.int x4)], [], (iq_sh l, I, J, X))) (fun _ => rfl) hc_ ?_
    refine iq_G_go (k := 5) (σ' := (99, [some (.ref 63), some (.int x1), some (.int x2), some (.int x3), some (.int x4)], [.int ((x3 >>> (x4 &&& 31)) &&& (1 : Int32))], (iq_sh l, I, J, X))) (fun _ => rfl) ?_
    rcases iq_ite h with ⟨hc_, h⟩ | ⟨hc_, h⟩
    · refine iq_G_pos (c := ((x3 >>> (x4 &&& 31)) &&& (1 : Int32)) = 0) (σ1 := (110, [some (.ref 63), some (.int x1), some (.int x2), some (.int x3), some (.int x4)], [], (iq_sh l, I, J, X))) (fun _ => rfl) hc_ ?_
      refine iq_G_go (k := 2) (σ' := (81, [some (.ref 63), some (.int x1), some (.int x2), some (.int x3), some (.int (x4 + (1 : Int32)))], [], (iq_sh l, I, J, X))) (fun _ => rfl) ?_
      cases h
      exact iq_G_fg (L := [some (.ref 63), some (.int x1), some (.int x2), some (.int x3), some (.int (x4 + (1 : Int32)))]) (And.intro rfl (And.intro rfl (And.intro rfl (And.intro rfl (And.intro rfl trivial))))) (hc ((x4 + (1 : Int32)), I) rfl)
    · refine iq_G_neg (c := ((x3 >>> (x4 &&& 31)) &&& (1 : Int32)) = 0) (σ1 := (102, [some (.ref 63), some (.int x1), some (.int x2), some (.int x3), some (.int x4)], [], (iq_sh l, I, J, X))) (fun _ => rfl) hc_ ?_
      refine iq_G_go (k := 4) (σ' := (109, [some (.ref 63), some (.int x1), some (.int x2), some (.int x3), some (.int x4)], [.int x2, .int x4, .ref 65], (iq_sh l, I, J, X))) (fun _ => rfl) ?_
      obtain ⟨hc_, h⟩ := iq_itn h
      refine iq_G_pos (c := iq_in x4 10) (σ1 := (110, [some (.ref 63), some (.int x1), some (.int x2), some (.int x3), some (.int x4)], [], (iq_sh l, (iq_upI I 65 (Int32.toNatClampNeg x4) x2), J, X))) (fun _ => rfl) hc_ ?_
      obtain ⟨I6, eI6, h⟩ := ir_letG h
      rw [← eI6]
      clear eI6
      refine iq_G_go (k := 2) (σ' := (81, [some (.ref 63), some (.int x1), some (.int x2), some (.int x3), some (.int (x4 + (1 : Int32)))], [], (iq_sh l, I6, J, X))) (fun _ => rfl) ?_
      cases h
      exact iq_G_fg (L := [some (.ref 63), some (.int x1), some (.int x2), some (.int x3), some (.int (x4 + (1 : Int32)))]) (And.intro rfl (And.intro rfl (And.intro rfl (And.intro rfl (And.intro rfl trivial))))) (hc ((x4 + (1 : Int32)), I6) rfl)
set_option maxRecDepth 100000 in
theorem zP_measureToEnds_l81_ok (l : Nat)  (x1 : Int32) (x2 : Int32) (x3 : Int32) (J : iq_J) (X : iq_X) {n : Nat} {v : Int32 × iq_I} {w : iq_I} (h : zP_measureToEnds_l81 x1 x2 x3 n v = some w) (r : iq_R × iq_M) (hq : iq_Gg 2 61 (116, [some (.ref 63), some (.int x1), some (.int x2), some (.int x3), none], [], (iq_sh l, w, J, X)) r) : iq_Gg 2 61 (81, [some (.ref 63), some (.int x1), some (.int x2), some (.int x3), some (.int v.1)], [], (iq_sh l, v.2, J, X)) r :=
  iq_lp_ok (σ := fun v => (81, [some (.ref 63), some (.int x1), some (.int x2), some (.int x3), some (.int v.1)], [], (iq_sh l, v.2, J, X))) (Q := fun w r => iq_Gg 2 61 (116, [some (.ref 63), some (.int x1), some (.int x2), some (.int x3), none], [], (iq_sh l, w, J, X)) r) (fun v q hv r h1 h2 => zP_measureToEnds_l81_bok l x1 x2 x3 J X v.1 v.2 hv r h1 h2) h r hq
set_option maxRecDepth 100000 in
theorem zP_measureToEnds_l53_bok (l : Nat)   (J : iq_J) (X : iq_X) (x1 : Int32) (x2 : Int32) (I : iq_I) {q : (Int32 × Int32 × iq_I) ⊕ (iq_I)} (h : zP_measureToEnds_l53_b  x1 x2 I = some q) (r : iq_R × iq_M) (hc : ∀ v, q = .inl v → iq_Gg 2 61 (53, [some (.ref 63), some (.int v.1), some (.int v.2.1), none, none], [], (iq_sh l, v.2.2, J, X)) r) (hx : ∀ w, q = .inr w → iq_Gg 2 61 (126, [none, none, none, none, none], [], (iq_sh l, w, J, X)) r) : iq_Gg 2 61 (53, [some (.ref 63), some (.int x1), some (.int x2), none, none], [], (iq_sh l, I, J, X)) r := by
  unfold zP_measureToEnds_l53_b at h
  refine iq_G_go (k := 4) (σ' := (61, [some (.ref 63), some (.int x1), some (.int x2), none, none], [.int (I 4 0), .int x2], (iq_sh l, I, J, X))) (fun _ => rfl) ?_
  rcases iq_ite h with ⟨hc_, h⟩ | ⟨hc_, h⟩
  · refine iq_G_pos (c := (I 4 0) ≤ x2) (σ1 := (126, [some (.ref 63), some (.int x1), some (.int x2), none, none], [], (iq_sh l, I, J, X))) (fun _ => rfl) hc_ ?_
    cases h
    exact iq_G_fg (L := [none, none, none, none, none]) trivial (hx I rfl)
  · refine iq_G_neg (c := (I 4 0) ≤ x2) (σ1 := (64, [some (.ref 63), some (.int x1), some (.int x2), none, none], [], (iq_sh l, I, J, X))) (fun _ => rfl) hc_ ?_
    refine iq_G_go (k := 2) (σ' := (66, [some (.ref 63), some (.int x1), some (.int x2), none, none], [.ref 63, .ref 63], (iq_sh l, I, J, X))) (fun _ => rfl) ?_
    obtain ⟨q4, hq4, h⟩ := iq_bnd h
    refine iq_G_call (σ' := (69, [some (.ref 63), some (.int x1), some (.int x2), none, none], [.int q4, .ref 63], (iq_sh l, I, J, X))) (fun _ => rfl) (zP_allStates_ok l  I J X hq4) rfl rfl ?_
    refine iq_G_go (k := 5) (σ' := (74, [some (.ref 63), some (.int x1), some (.int x2), none, none], [.int x1, .int (q4 &&& (x1 ^^^ (-1 : Int32))), .ref 63], (iq_sh l, I, J, X))) (fun _ => rfl) ?_
    obtain ⟨q5, hq5, h⟩ := iq_bnd h
    refine iq_G_call (σ' := (77, [some (.ref 63), some (.int x1), some (.int x2), none, none], [.int q5], (iq_sh l, I, J, X))) (fun _ => rfl) (zP_leadingInto_ok l (q4 &&& (x1 ^^^ (-1 : Int32))) x1 I J X hq5) rfl rfl ?_
    refine iq_G_go (k := 3) (σ' := (81, [some (.ref 63), some (.int x1), some (.int x2), some (.int q5), some (.int (0 : Int32))], [], (iq_sh l, I, J, X))) (fun _ => rfl) ?_
    obtain ⟨w7, hw7, h⟩ := iq_bnd h
    refine iq_G_fg (L := [some (.ref 63), some (.int x1), some (.int x2), some (.int q5), some (.int (0 : Int32))]) (And.intro rfl (And.intro rfl (And.intro rfl (And.intro rfl (And.intro rfl trivial))))) ?_
    refine zP_measureToEnds_l81_ok l x1 x2 q5 J X hw7 _ ?_
    show iq_Gg 2 61 (116, [some (.ref 63), some (.int x1), some (.int x2), some (.int q5), none], [], (iq_sh l, w7, J, X)) _
    refine iq_G_go (k := 6) (σ' := (53, [some (.ref 63), some (.int (x1 ||| q5)), some (.int (x2 + (1 : Int32))), some (.int q5), none], [], (iq_sh l, w7, J, X))) (fun _ => rfl) ?_
    cases h
    exact iq_G_fg (L := [some (.ref 63), some (.int (x1 ||| q5)), some (.int (x2 + (1 : Int32))), none, none]) (And.intro rfl (And.intro rfl (And.intro rfl trivial))) (hc ((x1 ||| q5), (x2 + (1 : Int32)), w7) rfl)
set_option maxRecDepth 100000 in
theorem zP_measureToEnds_l53_ok (l : Nat)   (J : iq_J) (X : iq_X) {n : Nat} {v : Int32 × Int32 × iq_I} {w : iq_I} (h : zP_measureToEnds_l53  n v = some w) (r : iq_R × iq_M) (hq : iq_Gg 2 61 (126, [none, none, none, none, none], [], (iq_sh l, w, J, X)) r) : iq_Gg 2 61 (53, [some (.ref 63), some (.int v.1), some (.int v.2.1), none, none], [], (iq_sh l, v.2.2, J, X)) r :=
  iq_lp_ok (σ := fun v => (53, [some (.ref 63), some (.int v.1), some (.int v.2.1), none, none], [], (iq_sh l, v.2.2, J, X))) (Q := fun w r => iq_Gg 2 61 (126, [none, none, none, none, none], [], (iq_sh l, w, J, X)) r) (fun v q hv r h1 h2 => zP_measureToEnds_l53_bok l J X v.1 v.2.1 v.2.2 hv r h1 h2) h r hq
set_option maxRecDepth 100000 in
theorem zP_measureToEnds_ok (l : Nat)   (I : iq_I) (J : iq_J) (X : iq_X) {q : iq_I} (h : zP_measureToEnds I = some q) : iq_Cc 3 61 [.ref 63] (iq_sh l, I, J, X) (.inl none, (iq_sh l, q, J, X)) := by
  refine iq_Cc_of (L := [some (.ref 63), none, none, none, none]) rfl rfl ?_
  unfold zP_measureToEnds at h
  refine iq_G_go (k := 2) (σ' := (2, [some (.ref 63), none, none, none, none], [.int (0 : Int32), .ref 63], (iq_sh l, I, J, X))) (fun _ => rfl) ?_
  obtain ⟨q1, hq1, h⟩ := iq_bnd h
  refine iq_G_call (σ' := (5, [some (.ref 63), none, none, none, none], [], (iq_sh l, q1, J, X))) (fun _ => rfl) (zP_lookBehind_ok l (0 : Int32) I J X hq1) rfl rfl ?_
  refine iq_G_go (k := 6) (σ' := (15, [some (.ref 63), some (.int (q1 4 1)), some (.int (0 : Int32)), none, none], [], (iq_sh l, q1, J, X))) (fun _ => rfl) ?_
  obtain ⟨w3, hw3, h⟩ := iq_bnd h
  refine iq_G_fg (L := [some (.ref 63), some (.int (q1 4 1)), some (.int (0 : Int32)), none, none]) (And.intro rfl (And.intro rfl (And.intro rfl trivial))) ?_
  refine zP_measureToEnds_l15_ok l (q1 4 1) J X hw3 _ ?_
  show iq_Gg 2 61 (51, [some (.ref 63), some (.int (q1 4 1)), none, none, none], [], (iq_sh l, w3, J, X)) _
  refine iq_G_go (k := 2) (σ' := (53, [some (.ref 63), some (.int (q1 4 1)), some (.int (1 : Int32)), none, none], [], (iq_sh l, w3, J, X))) (fun _ => rfl) ?_
  obtain ⟨w8, hw8, h⟩ := iq_bnd h
  refine iq_G_fg (L := [some (.ref 63), some (.int (q1 4 1)), some (.int (1 : Int32)), none, none]) (And.intro rfl (And.intro rfl (And.intro rfl trivial))) ?_
  refine zP_measureToEnds_l53_ok l J X hw8 _ ?_
  show iq_Gg 2 61 (126, [none, none, none, none, none], [], (iq_sh l, w8, J, X)) _
  cases h
  exact iq_G_ret (fun _ => rfl)
set_option maxRecDepth 100000 in
theorem zP_distanceOf_ok (l : Nat)  (x1 : Int32) (I : iq_I) (J : iq_J) (X : iq_X) {q : Int32} (h : zP_distanceOf x1 I = some q) : iq_Cc 1 62 [.ref 63, .int x1] (iq_sh l, I, J, X) (.inl (some (.int q)), (iq_sh l, I, J, X)) := by
  refine iq_Cc_of (L := [some (.ref 63), some (.int x1)]) rfl rfl ?_
  unfold zP_distanceOf at h
  refine iq_G_go (k := 1) (σ' := (1, [some (.ref 63), some (.int x1)], [.int x1], (iq_sh l, I, J, X))) (fun _ => rfl) ?_
  rcases iq_ite h with ⟨hc_, h⟩ | ⟨hc_, h⟩
  · refine iq_G_pos (c := x1 < 0) (σ1 := (15, [some (.ref 63), some (.int x1)], [], (iq_sh l, I, J, X))) (fun _ => rfl) hc_ ?_
    refine iq_G_go (k := 2) (σ' := (25, [some (.ref 63), some (.int x1)], [.int (-1 : Int32)], (iq_sh l, I, J, X))) (fun _ => rfl) ?_
    cases h
    exact iq_G_ret (fun _ => rfl)
  · refine iq_G_neg (c := x1 < 0) (σ1 := (4, [some (.ref 63), some (.int x1)], [], (iq_sh l, I, J, X))) (fun _ => rfl) hc_ ?_
    refine iq_G_go (k := 4) (σ' := (12, [some (.ref 63), some (.int x1)], [.int (I 4 0), .int x1], (iq_sh l, I, J, X))) (fun _ => rfl) ?_
    rcases iq_ite h with ⟨hc_, h⟩ | ⟨hc_, h⟩
    · refine iq_G_pos (c := x1 < (I 4 0)) (σ1 := (19, [some (.ref 63), some (.int x1)], [], (iq_sh l, I, J, X))) (fun _ => rfl) hc_ ?_
      refine iq_G_go (k := 3) (σ' := (24, [some (.ref 63), some (.int x1)], [.int x1, .ref 65], (iq_sh l, I, J, X))) (fun _ => rfl) ?_
      obtain ⟨hc_, h⟩ := iq_itn h
      refine iq_G_pos (c := iq_in x1 10) (σ1 := (25, [some (.ref 63), some (.int x1)], [.int (I 65 (Int32.toNatClampNeg x1))], (iq_sh l, I, J, X))) (fun _ => rfl) hc_ ?_
      cases h
      exact iq_G_ret (fun _ => rfl)
    · refine iq_G_neg (c := x1 < (I 4 0)) (σ1 := (15, [some (.ref 63), some (.int x1)], [], (iq_sh l, I, J, X))) (fun _ => rfl) hc_ ?_
      refine iq_G_go (k := 2) (σ' := (25, [some (.ref 63), some (.int x1)], [.int (-1 : Int32)], (iq_sh l, I, J, X))) (fun _ => rfl) ?_
      cases h
      exact iq_G_ret (fun _ => rfl)
set_option maxRecDepth 100000 in
theorem zP_soonestEnd_ok (l : Nat)  (x1 : Int32) (I : iq_I) (J : iq_J) (X : iq_X) {q : Int32 × iq_I} (h : zP_soonestEnd x1 I = some q) : iq_Cc 4 63 [.ref 63, .int x1] (iq_sh l, I, J, X) (.inl (some (.int q.1)), (iq_sh l, q.2, J, X)) := by
  refine iq_Cc_of (L := [some (.ref 63), some (.int x1)]) rfl rfl ?_
  unfold zP_soonestEnd at h
  refine iq_G_go (k := 1) (σ' := (1, [some (.ref 63), some (.int x1)], [.ref 63], (iq_sh l, I, J, X))) (fun _ => rfl) ?_
  obtain ⟨q1, hq1, h⟩ := iq_bnd h
  refine iq_G_call (σ' := (4, [some (.ref 63), some (.int x1)], [], (iq_sh l, q1, J, X))) (fun _ => rfl) (zP_measureToEnds_ok l  I J X hq1) rfl rfl ?_
  refine iq_G_go (k := 2) (σ' := (6, [some (.ref 63), some (.int x1)], [.int x1, .ref 63], (iq_sh l, q1, J, X))) (fun _ => rfl) ?_
  obtain ⟨q2, hq2, h⟩ := iq_bnd h
  refine iq_G_call (σ' := (9, [some (.ref 63), some (.int x1)], [.int q2], (iq_sh l, q1, J, X))) (fun _ => rfl) (zP_distanceOf_ok l x1 q1 J X hq2) rfl rfl ?_
  cases h
  exact iq_G_ret (fun _ => rfl)
set_option maxRecDepth 100000 in
theorem zP_firstNearer_l10_bok (l : Nat)  (x1 : Int32) (x2 : Int32) (I : iq_I) (J : iq_J) (X : iq_X) (x3 : Int32)  {q : (Int32) ⊕ ((Unit) ⊕ (Int32))} (h : zP_firstNearer_l10_b x1 x2 I x3 = some q) (r : iq_R × iq_M) (hc : ∀ v, q = .inl v → iq_Gg 1 65 (10, [some (.ref 63), some (.int x1), some (.int x2), some (.int v), none], [], (iq_sh l, I, J, X)) r) (hx : ∀ w, q = .inr w → (∀ a, w = .inl a → iq_Gg 1 65 (56, [none, none, none, none, none], [], (iq_sh l, I, J, X)) r) ∧ (∀ b, w = .inr b → r = (.inl (some (.int b)), (iq_sh l, I, J, X)))) : iq_Gg 1 65 (10, [some (.ref 63), some (.int x1), some (.int x2), some (.int x3), none], [], (iq_sh l, I, J, X)) r := by
  unfold zP_firstNearer_l10_b at h
  refine iq_G_go (k := 4) (σ' := (18, [some (.ref 63), some (.int x1), some (.int x2), some (.int x3), none], [.int (I 4 2), .int x3], (iq_sh l, I, J, X))) (fun _ => rfl) ?_
  rcases iq_ite h with ⟨hc_, h⟩ | ⟨hc_, h⟩
  · refine iq_G_pos (c := (I 4 2) ≤ x3) (σ1 := (56, [some (.ref 63), some (.int x1), some (.int x2), some (.int x3), none], [], (iq_sh l, I, J, X))) (fun _ => rfl) hc_ ?_
    cases h
    exact iq_G_fg (L := [none, none, none, none, none]) trivial ((hx (.inl ()) rfl).1 () rfl)
  · refine iq_G_neg (c := (I 4 2) ≤ x3) (σ1 := (21, [some (.ref 63), some (.int x1), some (.int x2), some (.int x3), none], [], (iq_sh l, I, J, X))) (fun _ => rfl) hc_ ?_
    refine iq_G_go (k := 4) (σ' := (27, [some (.ref 63), some (.int x1), some (.int x2), some (.int x3), none], [.int x3, .int x1, .ref 4], (iq_sh l, I, J, X))) (fun _ => rfl) ?_
    obtain ⟨q2, hq2, h⟩ := iq_bnd h
    refine iq_G_call (σ' := (30, [some (.ref 63), some (.int x1), some (.int x2), some (.int x3), none], [.int q2], (iq_sh l, I, J, X))) (fun _ => rfl) (zU_leadsTo_4_ok l x1 x3 I J X hq2) rfl rfl ?_
    refine iq_G_go (k := 3) (σ' := (35, [some (.ref 63), some (.int x1), some (.int x2), some (.int x3), some (.int q2)], [.int (-1 : Int32), .int q2], (iq_sh l, I, J, X))) (fun _ => rfl) ?_
    rcases iq_ite h with ⟨hc_, h⟩ | ⟨hc_, h⟩
    · refine iq_G_pos (c := q2 = (-1 : Int32)) (σ1 := (50, [some (.ref 63), some (.int x1), some (.int x2), some (.int x3), some (.int q2)], [], (iq_sh l, I, J, X))) (fun _ => rfl) hc_ ?_
      refine iq_G_go (k := 2) (σ' := (10, [some (.ref 63), some (.int x1), some (.int x2), some (.int (x3 + (1 : Int32))), some (.int q2)], [], (iq_sh l, I, J, X))) (fun _ => rfl) ?_
      cases h
      exact iq_G_fg (L := [some (.ref 63), some (.int x1), some (.int x2), some (.int (x3 + (1 : Int32))), none]) (And.intro rfl (And.intro rfl (And.intro rfl (And.intro rfl trivial)))) (hc (x3 + (1 : Int32)) rfl)
    · refine iq_G_neg (c := q2 = (-1 : Int32)) (σ1 := (38, [some (.ref 63), some (.int x1), some (.int x2), some (.int x3), some (.int q2)], [], (iq_sh l, I, J, X))) (fun _ => rfl) hc_ ?_
      refine iq_G_go (k := 2) (σ' := (41, [some (.ref 63), some (.int x1), some (.int x2), some (.int x3), some (.int q2)], [.int q2, .ref 63], (iq_sh l, I, J, X))) (fun _ => rfl) ?_
      obtain ⟨q3, hq3, h⟩ := iq_bnd h
      refine iq_G_call (σ' := (44, [some (.ref 63), some (.int x1), some (.int x2), some (.int x3), some (.int q2)], [.int q3], (iq_sh l, I, J, X))) (fun _ => rfl) (zP_distanceOf_ok l q2 I J X hq3) rfl rfl ?_
      refine iq_G_go (k := 1) (σ' := (45, [some (.ref 63), some (.int x1), some (.int x2), some (.int x3), some (.int q2)], [.int x2, .int q3], (iq_sh l, I, J, X))) (fun _ => rfl) ?_
      rcases iq_ite h with ⟨hc_, h⟩ | ⟨hc_, h⟩
      · refine iq_G_pos (c := ¬ q3 = x2) (σ1 := (50, [some (.ref 63), some (.int x1), some (.int x2), some (.int x3), some (.int q2)], [], (iq_sh l, I, J, X))) (fun _ => rfl) hc_ ?_
        refine iq_G_go (k := 2) (σ' := (10, [some (.ref 63), some (.int x1), some (.int x2), some (.int (x3 + (1 : Int32))), some (.int q2)], [], (iq_sh l, I, J, X))) (fun _ => rfl) ?_
        cases h
        exact iq_G_fg (L := [some (.ref 63), some (.int x1), some (.int x2), some (.int (x3 + (1 : Int32))), none]) (And.intro rfl (And.intro rfl (And.intro rfl (And.intro rfl trivial)))) (hc (x3 + (1 : Int32)) rfl)
      · refine iq_G_neg (c := ¬ q3 = x2) (σ1 := (48, [some (.ref 63), some (.int x1), some (.int x2), some (.int x3), some (.int q2)], [], (iq_sh l, I, J, X))) (fun _ => rfl) hc_ ?_
        refine iq_G_go (k := 1) (σ' := (49, [some (.ref 63), some (.int x1), some (.int x2), some (.int x3), some (.int q2)], [.int x3], (iq_sh l, I, J, X))) (fun _ => rfl) ?_
        cases h
        obtain rfl := (hx _ rfl).2 _ rfl
        exact iq_G_ret (fun _ => rfl)
set_option maxRecDepth 100000 in
theorem zP_firstNearer_l10_ok (l : Nat)  (x1 : Int32) (x2 : Int32) (I : iq_I) (J : iq_J) (X : iq_X) {n : Nat} {v : Int32} {w : (Unit) ⊕ (Int32)} (h : zP_firstNearer_l10 x1 x2 I n v = some w) (r : iq_R × iq_M) (hq : (∀ a, w = .inl a → iq_Gg 1 65 (56, [none, none, none, none, none], [], (iq_sh l, I, J, X)) r) ∧ (∀ b, w = .inr b → r = (.inl (some (.int b)), (iq_sh l, I, J, X)))) : iq_Gg 1 65 (10, [some (.ref 63), some (.int x1), some (.int x2), some (.int v), none], [], (iq_sh l, I, J, X)) r :=
  iq_lp_ok (σ := fun v => (10, [some (.ref 63), some (.int x1), some (.int x2), some (.int v), none], [], (iq_sh l, I, J, X))) (Q := fun w r => (∀ a, w = .inl a → iq_Gg 1 65 (56, [none, none, none, none, none], [], (iq_sh l, I, J, X)) r) ∧ (∀ b, w = .inr b → r = (.inl (some (.int b)), (iq_sh l, I, J, X)))) (fun v q hv r h1 h2 => zP_firstNearer_l10_bok l x1 x2 I J X v hv r h1 h2) h r hq
set_option maxRecDepth 100000 in
theorem zP_firstNearer_ok (l : Nat)  (x1 : Int32) (I : iq_I) (J : iq_J) (X : iq_X) {q : Int32} (h : zP_firstNearer x1 I = some q) : iq_Cc 2 65 [.ref 63, .int x1] (iq_sh l, I, J, X) (.inl (some (.int q)), (iq_sh l, I, J, X)) := by
  refine iq_Cc_of (L := [some (.ref 63), some (.int x1), none, none, none]) rfl rfl ?_
  unfold zP_firstNearer at h
  refine iq_G_go (k := 2) (σ' := (2, [some (.ref 63), some (.int x1), none, none, none], [.int x1, .ref 63], (iq_sh l, I, J, X))) (fun _ => rfl) ?_
  obtain ⟨q1, hq1, h⟩ := iq_bnd h
  refine iq_G_call (σ' := (5, [some (.ref 63), some (.int x1), none, none, none], [.int q1], (iq_sh l, I, J, X))) (fun _ => rfl) (zP_distanceOf_ok l x1 I J X hq1) rfl rfl ?_
  refine iq_G_go (k := 5) (σ' := (10, [some (.ref 63), some (.int x1), some (.int (q1 - (1 : Int32))), some (.int (0 : Int32)), none], [], (iq_sh l, I, J, X))) (fun _ => rfl) ?_
  obtain ⟨w4, hw4, h⟩ := iq_bnd h
  refine iq_G_fg (L := [some (.ref 63), some (.int x1), some (.int (q1 - (1 : Int32))), some (.int (0 : Int32)), none]) (And.intro rfl (And.intro rfl (And.intro rfl (And.intro rfl trivial)))) ?_
  refine zP_firstNearer_l10_ok l x1 (q1 - (1 : Int32)) I J X hw4 _ ⟨fun a5 ha => ?_, fun b6 hb => ?_⟩
  · subst ha
    replace h := ir_smL h
    show iq_Gg 1 65 (56, [none, none, none, none, none], [], (iq_sh l, I, J, X)) _
    refine iq_G_go (k := 1) (σ' := (57, [none, none, none, none, none], [.int (-1 : Int32)], (iq_sh l, I, J, X))) (fun _ => rfl) ?_
    cases h
    exact iq_G_ret (fun _ => rfl)
  · subst hb
    replace h := ir_smR h
    cases h
    rfl
set_option maxRecDepth 100000 in
theorem zP_soonestWord_l20_bok (l : Nat)  (x2 : Int32) (I : iq_I) (J : iq_J) (X : iq_X) (x3 : Int32) (x4 : Int32)  {q : (Int32 × Int32) ⊕ (Int32)} (h : zP_soonestWord_l20_b x2 I x3 x4 = some q) (r : iq_R × iq_M) (hc : ∀ v, q = .inl v → iq_Gg 3 64 (20, [some (.ref 63), none, some (.int x2), some (.int v.1), some (.int v.2)], [], (iq_sh l, I, J, X)) r) (hx : ∀ w, q = .inr w → iq_Gg 3 64 (53, [some (.ref 63), none, none, some (.int w), none], [], (iq_sh l, I, J, X)) r) : iq_Gg 3 64 (20, [some (.ref 63), none, some (.int x2), some (.int x3), some (.int x4)], [], (iq_sh l, I, J, X)) r := by
  unfold zP_soonestWord_l20_b at h
  refine iq_G_go (k := 2) (σ' := (23, [some (.ref 63), none, some (.int x2), some (.int x3), some (.int x4)], [.int x2, .int x4], (iq_sh l, I, J, X))) (fun _ => rfl) ?_
  rcases iq_ite h with ⟨hc_, h⟩ | ⟨hc_, h⟩
  · refine iq_G_pos (c := x2 ≤ x4) (σ1 := (53, [some (.ref 63), none, some (.int x2), some (.int x3), some (.int x4)], [], (iq_sh l, I, J, X))) (fun _ => rfl) hc_ ?_
    cases h
    exact iq_G_fg (L := [some (.ref 63), none, none, some (.int x3), none]) (And.intro rfl (And.intro rfl trivial)) (hx x3 rfl)
  · refine iq_G_neg (c := x2 ≤ x4) (σ1 := (26, [some (.ref 63), none, some (.int x2), some (.int x3), some (.int x4)], [], (iq_sh l, I, J, X))) (fun _ => rfl) hc_ ?_
    refine iq_G_go (k := 2) (σ' := (30, [some (.ref 63), none, some (.int x2), some (.int x3), some (.int x4)], [.int (10 : Int32), .int x4], (iq_sh l, I, J, X))) (fun _ => rfl) ?_
    rcases iq_ite h with ⟨hc_, h⟩ | ⟨hc_, h⟩
    · refine iq_G_pos (c := (10 : Int32) ≤ x4) (σ1 := (53, [some (.ref 63), none, some (.int x2), some (.int x3), some (.int x4)], [], (iq_sh l, I, J, X))) (fun _ => rfl) hc_ ?_
      cases h
      exact iq_G_fg (L := [some (.ref 63), none, none, some (.int x3), none]) (And.intro rfl (And.intro rfl trivial)) (hx x3 rfl)
    · refine iq_G_neg (c := (10 : Int32) ≤ x4) (σ1 := (33, [some (.ref 63), none, some (.int x2), some (.int x3), some (.int x4)], [], (iq_sh l, I, J, X))) (fun _ => rfl) hc_ ?_
      refine iq_G_go (k := 5) (σ' := (40, [some (.ref 63), none, some (.int x2), some (.int x3), some (.int x4)], [.int x3, .ref 63, .int x3, .ref 4], (iq_sh l, I, J, X))) (fun _ => rfl) ?_
      obtain ⟨q3, hq3, h⟩ := iq_bnd h
      refine iq_G_call (σ' := (43, [some (.ref 63), none, some (.int x2), some (.int x3), some (.int x4)], [.int q3, .int x3, .ref 4], (iq_sh l, I, J, X))) (fun _ => rfl) (zP_firstNearer_ok l x3 I J X hq3) rfl rfl ?_
      obtain ⟨q4, hq4, h⟩ := iq_bnd h
      refine iq_G_call (σ' := (46, [some (.ref 63), none, some (.int x2), some (.int x3), some (.int x4)], [.int q4], (iq_sh l, I, J, X))) (fun _ => rfl) (zU_leadsTo_4_ok l x3 q3 I J X hq4) rfl rfl ?_
      refine iq_G_go (k := 3) (σ' := (20, [some (.ref 63), none, some (.int x2), some (.int q4), some (.int (x4 + (1 : Int32)))], [], (iq_sh l, I, J, X))) (fun _ => rfl) ?_
      cases h
      exact iq_G_fg (L := [some (.ref 63), none, some (.int x2), some (.int q4), some (.int (x4 + (1 : Int32)))]) (And.intro rfl (And.intro rfl (And.intro rfl (And.intro rfl trivial)))) (hc (q4, (x4 + (1 : Int32))) rfl)
set_option maxRecDepth 100000 in
theorem zP_soonestWord_l20_ok (l : Nat)  (x2 : Int32) (I : iq_I) (J : iq_J) (X : iq_X) {n : Nat} {v : Int32 × Int32} {w : Int32} (h : zP_soonestWord_l20 x2 I n v = some w) (r : iq_R × iq_M) (hq : iq_Gg 3 64 (53, [some (.ref 63), none, none, some (.int w), none], [], (iq_sh l, I, J, X)) r) : iq_Gg 3 64 (20, [some (.ref 63), none, some (.int x2), some (.int v.1), some (.int v.2)], [], (iq_sh l, I, J, X)) r :=
  iq_lp_ok (σ := fun v => (20, [some (.ref 63), none, some (.int x2), some (.int v.1), some (.int v.2)], [], (iq_sh l, I, J, X))) (Q := fun w r => iq_Gg 3 64 (53, [some (.ref 63), none, none, some (.int w), none], [], (iq_sh l, I, J, X)) r) (fun v q hv r h1 h2 => zP_soonestWord_l20_bok l x2 I J X v.1 v.2 hv r h1 h2) h r hq
set_option maxRecDepth 100000 in
theorem zP_soonestWord_53_ok (l : Nat)  (x3 : Int32) (I : iq_I) (J : iq_J) (X : iq_X)  {q : Int32 × iq_I} (h : zP_soonestWord_53 x3 I = some q)  : iq_Gg 3 64 (53, [some (.ref 63), none, none, some (.int x3), none], [], (iq_sh l, I, J, X)) (.inl (some (.int q.1)), (iq_sh l, q.2, J, X)) := by
  unfold zP_soonestWord_53 at h
  refine iq_G_go (k := 2) (σ' := (55, [some (.ref 63), none, none, some (.int x3), none], [.int x3, .ref 63], (iq_sh l, I, J, X))) (fun _ => rfl) ?_
  obtain ⟨q6, hq6, h⟩ := iq_bnd h
  refine iq_G_call (σ' := (58, [some (.ref 63), none, none, some (.int x3), none], [.int q6], (iq_sh l, I, J, X))) (fun _ => rfl) (zP_firstNearer_ok l x3 I J X hq6) rfl rfl ?_
  cases h
  exact iq_G_ret (fun _ => rfl)
set_option maxRecDepth 100000 in
theorem zP_soonestWord_ok (l : Nat)  (x1 : Int32) (x2 : Int32) (I : iq_I) (J : iq_J) (X : iq_X) {q : Int32 × iq_I} (h : zP_soonestWord x1 x2 I = some q) : iq_Cc 4 64 [.ref 63, .int x1, .int x2] (iq_sh l, I, J, X) (.inl (some (.int q.1)), (iq_sh l, q.2, J, X)) := by
  refine iq_Cc_of (L := [some (.ref 63), some (.int x1), some (.int x2), none, none]) rfl rfl ?_
  unfold zP_soonestWord at h
  refine iq_G_go (k := 1) (σ' := (1, [some (.ref 63), some (.int x1), some (.int x2), none, none], [.ref 63], (iq_sh l, I, J, X))) (fun _ => rfl) ?_
  obtain ⟨q1, hq1, h⟩ := iq_bnd h
  refine iq_G_call (σ' := (4, [some (.ref 63), some (.int x1), some (.int x2), none, none], [], (iq_sh l, q1, J, X))) (fun _ => rfl) (zP_measureToEnds_ok l  I J X hq1) rfl rfl ?_
  refine iq_G_go (k := 3) (σ' := (7, [some (.ref 63), some (.int x1), some (.int x2), none, none], [.int x1, .ref 63, .int x2], (iq_sh l, q1, J, X))) (fun _ => rfl) ?_
  obtain ⟨q2, hq2, h⟩ := iq_bnd h
  refine iq_G_call (σ' := (10, [some (.ref 63), some (.int x1), some (.int x2), none, none], [.int q2, .int x2], (iq_sh l, q1, J, X))) (fun _ => rfl) (zP_distanceOf_ok l x1 q1 J X hq2) rfl rfl ?_
  rcases iq_ite h with ⟨hc_, h⟩ | ⟨hc_, h⟩
  · refine iq_G_pos (c := x2 < q2) (σ1 := (15, [some (.ref 63), some (.int x1), some (.int x2), none, none], [], (iq_sh l, q1, J, X))) (fun _ => rfl) hc_ ?_
    refine iq_G_go (k := 4) (σ' := (20, [some (.ref 63), some (.int x1), some (.int x2), some (.int x1), some (.int (0 : Int32))], [], (iq_sh l, q1, J, X))) (fun _ => rfl) ?_
    obtain ⟨w5, hw5, h⟩ := iq_bnd h
    refine iq_G_fg (L := [some (.ref 63), none, some (.int x2), some (.int x1), some (.int (0 : Int32))]) (And.intro rfl (And.intro rfl (And.intro rfl (And.intro rfl trivial)))) ?_
    refine zP_soonestWord_l20_ok l x2 q1 J X hw5 _ ?_
    show iq_Gg 3 64 (53, [some (.ref 63), none, none, some (.int w5), none], [], (iq_sh l, q1, J, X)) _
    exact iq_G_fg (L := [some (.ref 63), none, none, some (.int w5), none]) (And.intro rfl (And.intro rfl trivial)) (zP_soonestWord_53_ok l w5 q1 J X  h )
  · refine iq_G_neg (c := x2 < q2) (σ1 := (13, [some (.ref 63), some (.int x1), some (.int x2), none, none], [], (iq_sh l, q1, J, X))) (fun _ => rfl) hc_ ?_
    refine iq_G_go (k := 1) (σ' := (14, [some (.ref 63), some (.int x1), some (.int x2), none, none], [.int (-1 : Int32)], (iq_sh l, q1, J, X))) (fun _ => rfl) ?_
    cases h
    exact iq_G_ret (fun _ => rfl)
set_option maxRecDepth 100000 in
theorem zO_soonest_ok (l : Nat)  (x1 : Int32) (x2 : Int32) (I : iq_I) (J : iq_J) (X : iq_X) {q : (Int32 ⊕ Nat) × iq_I × iq_X} (h : zO_soonest x1 x2 I X = some q) : iq_Cc 5 164 [.ref 1, .int x1, .int x2] (iq_sh l, I, J, X) ((ir_Ri q.1), (iq_sh l, q.2.1, J, q.2.2)) := by
  refine iq_Cc_of (L := [some (.ref 1), some (.int x1), some (.int x2)]) rfl rfl ?_
  unfold zO_soonest at h
  refine iq_G_go (k := 2) (σ' := (2, [some (.ref 1), some (.int x1), some (.int x2)], [.int x1, .ref 1], (iq_sh l, I, J, X))) (fun _ => rfl) ?_
  obtain ⟨q1, hq1, h⟩ := iq_bnd h
  have hC := (zO_needState_ok l x1 I J X hq1)
  rcases iq_smc h with ⟨a2, ha, h⟩ | ⟨k3, ha, h⟩
  · rw [ha] at hC
    refine iq_G_call (σ' := (5, [some (.ref 1), some (.int x1), some (.int x2)], [], (iq_sh l, I, J, q1.2))) (fun _ => rfl) hC rfl rfl ?_
    refine iq_G_go (k := 2) (σ' := (7, [some (.ref 1), some (.int x1), some (.int x2)], [.int x2, .ref 1], (iq_sh l, I, J, q1.2))) (fun _ => rfl) ?_
    obtain ⟨q4, hq4, h⟩ := iq_bnd h
    have hC := (zO_needNoneOrMore_ok l x2 I J q1.2 hq4)
    rcases iq_smc h with ⟨a5, ha, h⟩ | ⟨k6, ha, h⟩
    · rw [ha] at hC
      refine iq_G_call (σ' := (10, [some (.ref 1), some (.int x1), some (.int x2)], [], (iq_sh l, I, J, q4.2))) (fun _ => rfl) hC rfl rfl ?_
      refine iq_G_go (k := 2) (σ' := (12, [some (.ref 1), some (.int x1), some (.int x2)], [.int (-1 : Int32), .int x2], (iq_sh l, I, J, q4.2))) (fun _ => rfl) ?_
      rcases iq_ite h with ⟨hc_, h⟩ | ⟨hc_, h⟩
      · refine iq_G_pos (c := ¬ x2 = (-1 : Int32)) (σ1 := (26, [some (.ref 1), some (.int x1), some (.int x2)], [], (iq_sh l, I, J, q4.2))) (fun _ => rfl) hc_ ?_
        refine iq_G_go (k := 4) (σ' := (32, [some (.ref 1), some (.int x1), some (.int x2)], [.int x2, .int x1, .ref 63], (iq_sh l, I, J, q4.2))) (fun _ => rfl) ?_
        obtain ⟨q7, hq7, h⟩ := iq_bnd h
        refine iq_G_call (σ' := (35, [some (.ref 1), some (.int x1), some (.int x2)], [.int q7.1], (iq_sh l, q7.2, J, q4.2))) (fun _ => rfl) (zP_soonestWord_ok l x1 x2 I J q4.2 hq7) rfl rfl ?_
        cases h
        exact iq_G_ret (fun _ => rfl)
      · refine iq_G_neg (c := ¬ x2 = (-1 : Int32)) (σ1 := (15, [some (.ref 1), some (.int x1), some (.int x2)], [], (iq_sh l, I, J, q4.2))) (fun _ => rfl) hc_ ?_
        refine iq_G_go (k := 3) (σ' := (20, [some (.ref 1), some (.int x1), some (.int x2)], [.int x1, .ref 63], (iq_sh l, I, J, q4.2))) (fun _ => rfl) ?_
        obtain ⟨q8, hq8, h⟩ := iq_bnd h
        refine iq_G_call (σ' := (23, [some (.ref 1), some (.int x1), some (.int x2)], [.int q8.1], (iq_sh l, q8.2, J, q4.2))) (fun _ => rfl) (zP_soonestEnd_ok l x1 I J q4.2 hq8) rfl rfl ?_
        refine iq_G_go (k := 1) (σ' := (35, [some (.ref 1), some (.int x1), some (.int x2)], [.int q8.1], (iq_sh l, q8.2, J, q4.2))) (fun _ => rfl) ?_
        cases h
        exact iq_G_ret (fun _ => rfl)
    · rw [ha] at hC
      cases h
      exact iq_G_callx (fun _ => rfl) hC rfl rfl
  · rw [ha] at hC
    cases h
    exact iq_G_callx (fun _ => rfl) hC rfl rfl
set_option maxRecDepth 100000 in
theorem zL_soonest_ok (l : Nat)  (x1 : Int32) (x2 : Int32) (I : iq_I) (J : iq_J) (X : iq_X) {q : Int32 × iq_I × iq_J × iq_X} (h : zL_soonest x1 x2 I J X = some q) : iq_Cc 6 336 [.ref 1, .int x1, .int x2, .ref 114] (iq_sh l, I, J, X) (.inl (some (.int q.1)), (iq_sh l, q.2.1, q.2.2.1, q.2.2.2)) := by
  refine iq_Cc_of (L := [some (.ref 1), some (.int x1), some (.int x2), some (.ref 114), none]) rfl rfl ?_
  unfold zL_soonest at h
  refine iq_G_go (k := 5) (σ' := (5, [some (.ref 1), some (.int x1), some (.int x2), some (.ref 114), none], [.int x2, .int x1, .ref 1, .int (0 : Int32), .ref 114], (iq_sh l, I, J, X))) (fun _ => rfl) ?_
  obtain ⟨q1, hq1, h⟩ := iq_bnd h
  have hC := (zO_soonest_ok l x1 x2 I J X hq1)
  rcases iq_smc h with ⟨a2, ha, h⟩ | ⟨k3, ha, h⟩
  · rw [ha] at hC
    refine iq_G_call (σ' := (8, [some (.ref 1), some (.int x1), some (.int x2), some (.ref 114), none], [.int a2, .int (0 : Int32), .ref 114], (iq_sh l, q1.2.1, J, q1.2.2))) (fun _ => rfl) hC rfl rfl ?_
    refine iq_G_go (k := 1) (σ' := (9, [some (.ref 1), some (.int x1), some (.int x2), some (.ref 114), none], [.long (Int32.toInt64 a2), .int (0 : Int32), .ref 114], (iq_sh l, q1.2.1, J, q1.2.2))) (fun _ => rfl) ?_
    refine iq_G_go (k := 1) (σ' := (10, [some (.ref 1), some (.int x1), some (.int x2), some (.ref 114), none], [], (iq_sh l, q1.2.1, (iq_upJ J 114 0 (Int32.toInt64 a2)), q1.2.2))) (fun _ => rfl) ?_
    obtain ⟨J4, eJ4, h⟩ := ir_letG h
    rw [← eJ4]
    clear eJ4
    refine iq_G_go (k := 2) (σ' := (18, [some (.ref 1), some (.int x1), some (.int x2), some (.ref 114), none], [.int (0 : Int32)], (iq_sh l, q1.2.1, J4, q1.2.2))) (fun _ => rfl) ?_
    cases h
    exact iq_G_ret (fun _ => rfl)
  · rw [ha] at hC
    rcases iq_ite h with ⟨e, h⟩ | ⟨_, h⟩
    · subst e
      refine iq_G_call (σ' := (15, [some (.ref 1), some (.int x1), some (.int x2), some (.ref 114), none], [], (iq_sh l, q1.2.1, J, q1.2.2))) (fun _ => rfl) hC rfl rfl ?_
      refine iq_G_go (k := 1) (σ' := (16, [some (.ref 1), some (.int x1), some (.int x2), some (.ref 114), none], [.int (1 : Int32)], (iq_sh l, q1.2.1, J, q1.2.2))) (fun _ => rfl) ?_
      cases h
      exact iq_G_ret (fun _ => rfl)
    · obtain ⟨e, h⟩ := iq_itn h
      cases h

