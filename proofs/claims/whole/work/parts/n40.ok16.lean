/-! ===== the abstract machine does the same (printed by wip/whole/emitall.py, split.py) ===== -/
set_option maxRecDepth 100000 in
theorem zR_readSum_82_ok {D : Nat} (l : Nat) (R : Nat → Int32 → iq_I → Option (Int32 × iq_I))  (hR : ∀ (t : Nat) (x : Int32) (I : iq_I) (J : iq_J) (X : iq_X) (q : Int32 × iq_I), R t x I = some q → iq_Cc D t [.ref 61, .int x] (iq_sh l, I, J, X) (.inl (some (.int q.1)), (iq_sh l, q.2, J, X))) (hD : 6 ≤ D) (x1 : Int32) (x2 : Int32) (s1 : Int32) (I : iq_I) (J : iq_J) (X : iq_X)  {q : (Int32 × iq_I) ⊕ ((iq_I) ⊕ (Int32 × iq_I))} (h : zR_readSum_82 R x1 x2 s1 I = some q) (r : iq_R × iq_M) (hc : ∀ v, q = .inl v → iq_Gg D 103 (12, [some (.ref 61), some (.int x1), some (.int v.1), none], [], (iq_sh l, v.2, J, X)) r) (hx : ∀ w, q = .inr w → (∀ a, w = .inl a → iq_Gg D 103 (91, [none, none, none, none], [], (iq_sh l, a, J, X)) r) ∧ (∀ b, w = .inr b → r = (.inl (some (.int b.1)), (iq_sh l, b.2, J, X)))) : iq_Gg D 103 (82, [some (.ref 61), some (.int x1), some (.int x2), none], [.int s1, .ref 42], (iq_sh l, I, J, X)) r := by
  unfold zR_readSum_82 at h
  obtain ⟨q5, hq5, h⟩ := iq_bnd h
  refine iq_G_call (σ' := (85, [some (.ref 61), some (.int x1), some (.int x2), none], [], (iq_sh l, q5, J, X))) (fun _ => rfl) (zE_step_ok l s1 I J X hq5) (Nat.ble_eq_true_of_le (by omega)) rfl ?_
  refine iq_G_go (k := 2) (σ' := (12, [some (.ref 61), some (.int x1), some (.int (x2 + (1 : Int32))), none], [], (iq_sh l, q5, J, X))) (fun _ => rfl) ?_
  cases h
  exact iq_G_fg (L := [some (.ref 61), some (.int x1), some (.int (x2 + (1 : Int32))), none]) (And.intro rfl (And.intro rfl (And.intro rfl trivial))) (hc ((x2 + (1 : Int32)), q5) rfl)
set_option maxRecDepth 100000 in
theorem zR_readSum_47_ok {D : Nat} (l : Nat) (R : Nat → Int32 → iq_I → Option (Int32 × iq_I))  (hR : ∀ (t : Nat) (x : Int32) (I : iq_I) (J : iq_J) (X : iq_X) (q : Int32 × iq_I), R t x I = some q → iq_Cc D t [.ref 61, .int x] (iq_sh l, I, J, X) (.inl (some (.int q.1)), (iq_sh l, q.2, J, X))) (hD : 6 ≤ D) (x1 : Int32) (x2 : Int32) (x3 : Int32) (I : iq_I) (J : iq_J) (X : iq_X)  {q : (Int32 × iq_I) ⊕ ((iq_I) ⊕ (Int32 × iq_I))} (h : zR_readSum_47 R x1 x2 x3 I = some q) (r : iq_R × iq_M) (hc : ∀ v, q = .inl v → iq_Gg D 103 (12, [some (.ref 61), some (.int x1), some (.int v.1), none], [], (iq_sh l, v.2, J, X)) r) (hx : ∀ w, q = .inr w → (∀ a, w = .inl a → iq_Gg D 103 (91, [none, none, none, none], [], (iq_sh l, a, J, X)) r) ∧ (∀ b, w = .inr b → r = (.inl (some (.int b.1)), (iq_sh l, b.2, J, X)))) : iq_Gg D 103 (47, [some (.ref 61), some (.int x1), some (.int x2), some (.int x3)], [], (iq_sh l, I, J, X)) r := by
  unfold zR_readSum_47 at h
  refine iq_G_go (k := 2) (σ' := (51, [some (.ref 61), some (.int x1), some (.int x2), some (.int x3)], [.ref 62], (iq_sh l, I, J, X))) (fun _ => rfl) ?_
  obtain ⟨q3, hq3, h⟩ := iq_bnd h
  refine iq_G_call (σ' := (54, [some (.ref 61), some (.int x1), some (.int x2), some (.int x3)], [], (iq_sh l, q3, J, X))) (fun _ => rfl) (zT_next_ok l  I J X hq3) (Nat.ble_eq_true_of_le (by omega)) rfl ?_
  refine iq_G_go (k := 2) (σ' := (56, [some (.ref 61), some (.int x1), some (.int x2), some (.int x3)], [.int x1, .ref 61], (iq_sh l, q3, J, X))) (fun _ => rfl) ?_
  obtain ⟨q4, hq4, h⟩ := iq_bnd h
  refine iq_G_call (σ' := (59, [some (.ref 61), some (.int x1), some (.int x2), some (.int x3)], [.int q4.1], (iq_sh l, q4.2, J, X))) (fun _ => rfl) (hR 104 x1 q3 J X q4 hq4) (Nat.ble_eq_true_of_le (Nat.le_refl _)) rfl ?_
  rcases iq_ite h with ⟨hc_, h⟩ | ⟨hc_, h⟩
  · refine iq_G_pos (c := ¬ q4.1 = 0) (σ1 := (64, [some (.ref 61), some (.int x1), some (.int x2), some (.int x3)], [], (iq_sh l, q4.2, J, X))) (fun _ => rfl) hc_ ?_
    refine iq_G_go (k := 4) (σ' := (72, [some (.ref 61), some (.int x1), some (.int x2), some (.int x3)], [.int x3, .ref 42], (iq_sh l, q4.2, J, X))) (fun _ => rfl) ?_
    rcases iq_ite h with ⟨hc_, h⟩ | ⟨hc_, h⟩
    · refine iq_G_pos (c := x3 = 0) (σ1 := (80, [some (.ref 61), some (.int x1), some (.int x2), some (.int x3)], [.ref 42], (iq_sh l, q4.2, J, X))) (fun _ => rfl) hc_ ?_
      refine iq_G_go (k := 1) (σ' := (82, [some (.ref 61), some (.int x1), some (.int x2), some (.int x3)], [.int (-14 : Int32), .ref 42], (iq_sh l, q4.2, J, X))) (fun _ => rfl) ?_
      exact iq_G_fg (L := [some (.ref 61), some (.int x1), some (.int x2), none]) (And.intro rfl (And.intro rfl (And.intro rfl trivial))) (zR_readSum_82_ok l R hR hD x1 x2 (-14 : Int32) q4.2 J X  h r hc hx)
    · refine iq_G_neg (c := x3 = 0) (σ1 := (75, [some (.ref 61), some (.int x1), some (.int x2), some (.int x3)], [.ref 42], (iq_sh l, q4.2, J, X))) (fun _ => rfl) hc_ ?_
      refine iq_G_go (k := 2) (σ' := (82, [some (.ref 61), some (.int x1), some (.int x2), some (.int x3)], [.int (-13 : Int32), .ref 42], (iq_sh l, q4.2, J, X))) (fun _ => rfl) ?_
      exact iq_G_fg (L := [some (.ref 61), some (.int x1), some (.int x2), none]) (And.intro rfl (And.intro rfl (And.intro rfl trivial))) (zR_readSum_82_ok l R hR hD x1 x2 (-13 : Int32) q4.2 J X  h r hc hx)
  · refine iq_G_neg (c := ¬ q4.1 = 0) (σ1 := (62, [some (.ref 61), some (.int x1), some (.int x2), some (.int x3)], [], (iq_sh l, q4.2, J, X))) (fun _ => rfl) hc_ ?_
    refine iq_G_go (k := 1) (σ' := (63, [some (.ref 61), some (.int x1), some (.int x2), some (.int x3)], [.int (0 : Int32)], (iq_sh l, q4.2, J, X))) (fun _ => rfl) ?_
    cases h
    obtain rfl := (hx _ rfl).2 _ rfl
    exact iq_G_ret (fun _ => rfl)
set_option maxRecDepth 100000 in
theorem zR_readSum_l12_bok {D : Nat} (l : Nat) (R : Nat → Int32 → iq_I → Option (Int32 × iq_I))  (hR : ∀ (t : Nat) (x : Int32) (I : iq_I) (J : iq_J) (X : iq_X) (q : Int32 × iq_I), R t x I = some q → iq_Cc D t [.ref 61, .int x] (iq_sh l, I, J, X) (.inl (some (.int q.1)), (iq_sh l, q.2, J, X))) (hD : 6 ≤ D) (x1 : Int32) (J : iq_J) (X : iq_X) (x2 : Int32) (I : iq_I) {q : (Int32 × iq_I) ⊕ ((iq_I) ⊕ (Int32 × iq_I))} (h : zR_readSum_l12_b R x1 x2 I = some q) (r : iq_R × iq_M) (hc : ∀ v, q = .inl v → iq_Gg D 103 (12, [some (.ref 61), some (.int x1), some (.int v.1), none], [], (iq_sh l, v.2, J, X)) r) (hx : ∀ w, q = .inr w → (∀ a, w = .inl a → iq_Gg D 103 (91, [none, none, none, none], [], (iq_sh l, a, J, X)) r) ∧ (∀ b, w = .inr b → r = (.inl (some (.int b.1)), (iq_sh l, b.2, J, X)))) : iq_Gg D 103 (12, [some (.ref 61), some (.int x1), some (.int x2), none], [], (iq_sh l, I, J, X)) r := by
  unfold zR_readSum_l12_b at h
  refine iq_G_go (k := 2) (σ' := (16, [some (.ref 61), some (.int x1), some (.int x2), none], [.int (700 : Int32), .int x2], (iq_sh l, I, J, X))) (fun _ => rfl) ?_
  rcases iq_ite h with ⟨hc_, h⟩ | ⟨hc_, h⟩
  · refine iq_G_pos (c := (700 : Int32) ≤ x2) (σ1 := (91, [some (.ref 61), some (.int x1), some (.int x2), none], [], (iq_sh l, I, J, X))) (fun _ => rfl) hc_ ?_
    cases h
    exact iq_G_fg (L := [none, none, none, none]) trivial ((hx (.inl I) rfl).1 I rfl)
  · refine iq_G_neg (c := (700 : Int32) ≤ x2) (σ1 := (19, [some (.ref 61), some (.int x1), some (.int x2), none], [], (iq_sh l, I, J, X))) (fun _ => rfl) hc_ ?_
    refine iq_G_go (k := 3) (σ' := (25, [some (.ref 61), some (.int x1), some (.int x2), none], [.int (43 : Int32), .ref 62], (iq_sh l, I, J, X))) (fun _ => rfl) ?_
    obtain ⟨q2, hq2, h⟩ := iq_bnd h
    refine iq_G_call (σ' := (28, [some (.ref 61), some (.int x1), some (.int x2), none], [.int q2], (iq_sh l, I, J, X))) (fun _ => rfl) (zT_isSign_ok l (43 : Int32) I J X hq2) (Nat.ble_eq_true_of_le (by omega)) rfl ?_
    refine iq_G_go (k := 2) (σ' := (30, [some (.ref 61), some (.int x1), some (.int x2), some (.int q2)], [.int q2], (iq_sh l, I, J, X))) (fun _ => rfl) ?_
    rcases iq_ite h with ⟨hc_, h⟩ | ⟨hc_, h⟩
    · refine iq_G_pos (c := ¬ q2 = 0) (σ1 := (47, [some (.ref 61), some (.int x1), some (.int x2), some (.int q2)], [], (iq_sh l, I, J, X))) (fun _ => rfl) hc_ ?_
      exact iq_G_fg (L := [some (.ref 61), some (.int x1), some (.int x2), some (.int q2)]) (And.intro rfl (And.intro rfl (And.intro rfl (And.intro rfl trivial)))) (zR_readSum_47_ok l R hR hD x1 x2 q2 I J X  h r hc hx)
    · refine iq_G_neg (c := ¬ q2 = 0) (σ1 := (33, [some (.ref 61), some (.int x1), some (.int x2), some (.int q2)], [], (iq_sh l, I, J, X))) (fun _ => rfl) hc_ ?_
      refine iq_G_go (k := 3) (σ' := (39, [some (.ref 61), some (.int x1), some (.int x2), some (.int q2)], [.int (45 : Int32), .ref 62], (iq_sh l, I, J, X))) (fun _ => rfl) ?_
      obtain ⟨q6, hq6, h⟩ := iq_bnd h
      refine iq_G_call (σ' := (42, [some (.ref 61), some (.int x1), some (.int x2), some (.int q2)], [.int q6], (iq_sh l, I, J, X))) (fun _ => rfl) (zT_isSign_ok l (45 : Int32) I J X hq6) (Nat.ble_eq_true_of_le (by omega)) rfl ?_
      rcases iq_ite h with ⟨hc_, h⟩ | ⟨hc_, h⟩
      · refine iq_G_pos (c := ¬ q6 = 0) (σ1 := (47, [some (.ref 61), some (.int x1), some (.int x2), some (.int q2)], [], (iq_sh l, I, J, X))) (fun _ => rfl) hc_ ?_
        exact iq_G_fg (L := [some (.ref 61), some (.int x1), some (.int x2), some (.int q2)]) (And.intro rfl (And.intro rfl (And.intro rfl (And.intro rfl trivial)))) (zR_readSum_47_ok l R hR hD x1 x2 q2 I J X  h r hc hx)
      · refine iq_G_neg (c := ¬ q6 = 0) (σ1 := (45, [some (.ref 61), some (.int x1), some (.int x2), some (.int q2)], [], (iq_sh l, I, J, X))) (fun _ => rfl) hc_ ?_
        refine iq_G_go (k := 1) (σ' := (46, [some (.ref 61), some (.int x1), some (.int x2), some (.int q2)], [.int (1 : Int32)], (iq_sh l, I, J, X))) (fun _ => rfl) ?_
        cases h
        obtain rfl := (hx _ rfl).2 _ rfl
        exact iq_G_ret (fun _ => rfl)
set_option maxRecDepth 100000 in
theorem zR_readSum_l12_ok {D : Nat} (l : Nat) (R : Nat → Int32 → iq_I → Option (Int32 × iq_I))  (hR : ∀ (t : Nat) (x : Int32) (I : iq_I) (J : iq_J) (X : iq_X) (q : Int32 × iq_I), R t x I = some q → iq_Cc D t [.ref 61, .int x] (iq_sh l, I, J, X) (.inl (some (.int q.1)), (iq_sh l, q.2, J, X))) (hD : 6 ≤ D) (x1 : Int32) (J : iq_J) (X : iq_X) {n : Nat} {v : Int32 × iq_I} {w : (iq_I) ⊕ (Int32 × iq_I)} (h : zR_readSum_l12 R x1 n v = some w) (r : iq_R × iq_M) (hq : (∀ a, w = .inl a → iq_Gg D 103 (91, [none, none, none, none], [], (iq_sh l, a, J, X)) r) ∧ (∀ b, w = .inr b → r = (.inl (some (.int b.1)), (iq_sh l, b.2, J, X)))) : iq_Gg D 103 (12, [some (.ref 61), some (.int x1), some (.int v.1), none], [], (iq_sh l, v.2, J, X)) r :=
  iq_lp_ok (σ := fun v => (12, [some (.ref 61), some (.int x1), some (.int v.1), none], [], (iq_sh l, v.2, J, X))) (Q := fun w r => (∀ a, w = .inl a → iq_Gg D 103 (91, [none, none, none, none], [], (iq_sh l, a, J, X)) r) ∧ (∀ b, w = .inr b → r = (.inl (some (.int b.1)), (iq_sh l, b.2, J, X)))) (fun v q hv r h1 h2 => zR_readSum_l12_bok l R hR hD x1 J X v.1 v.2 hv r h1 h2) h r hq
set_option maxRecDepth 100000 in
theorem zR_readSum_ok {D : Nat} (l : Nat) (R : Nat → Int32 → iq_I → Option (Int32 × iq_I))  (hR : ∀ (t : Nat) (x : Int32) (I : iq_I) (J : iq_J) (X : iq_X) (q : Int32 × iq_I), R t x I = some q → iq_Cc D t [.ref 61, .int x] (iq_sh l, I, J, X) (.inl (some (.int q.1)), (iq_sh l, q.2, J, X))) (hD : 6 ≤ D) (x1 : Int32) (I : iq_I) (J : iq_J) (X : iq_X) {q : Int32 × iq_I} (h : zR_readSum R x1 I = some q) : iq_Cc (D + 1) 103 [.ref 61, .int x1] (iq_sh l, I, J, X) (.inl (some (.int q.1)), (iq_sh l, q.2, J, X)) := by
  refine iq_Cc_of (L := [some (.ref 61), some (.int x1), none, none]) rfl rfl ?_
  unfold zR_readSum at h
  refine iq_G_go (k := 2) (σ' := (2, [some (.ref 61), some (.int x1), none, none], [.int x1, .ref 61], (iq_sh l, I, J, X))) (fun _ => rfl) ?_
  obtain ⟨q1, hq1, h⟩ := iq_bnd h
  refine iq_G_call (σ' := (5, [some (.ref 61), some (.int x1), none, none], [.int q1.1], (iq_sh l, q1.2, J, X))) (fun _ => rfl) (hR 104 x1 I J X q1 hq1) (Nat.ble_eq_true_of_le (Nat.le_refl _)) rfl ?_
  rcases iq_ite h with ⟨hc_, h⟩ | ⟨hc_, h⟩
  · refine iq_G_pos (c := ¬ q1.1 = 0) (σ1 := (10, [some (.ref 61), some (.int x1), none, none], [], (iq_sh l, q1.2, J, X))) (fun _ => rfl) hc_ ?_
    refine iq_G_go (k := 2) (σ' := (12, [some (.ref 61), some (.int x1), some (.int (0 : Int32)), none], [], (iq_sh l, q1.2, J, X))) (fun _ => rfl) ?_
    obtain ⟨w7, hw7, h⟩ := iq_bnd h
    refine iq_G_fg (L := [some (.ref 61), some (.int x1), some (.int (0 : Int32)), none]) (And.intro rfl (And.intro rfl (And.intro rfl trivial))) ?_
    refine zR_readSum_l12_ok l R hR hD x1 J X hw7 _ ⟨fun a8 ha => ?_, fun b9 hb => ?_⟩
    · subst ha
      replace h := ir_smL h
      show iq_Gg D 103 (91, [none, none, none, none], [], (iq_sh l, a8, J, X)) _
      refine iq_G_go (k := 1) (σ' := (92, [none, none, none, none], [.int (1 : Int32)], (iq_sh l, a8, J, X))) (fun _ => rfl) ?_
      cases h
      exact iq_G_ret (fun _ => rfl)
    · subst hb
      replace h := ir_smR h
      cases h
      rfl
  · refine iq_G_neg (c := ¬ q1.1 = 0) (σ1 := (8, [some (.ref 61), some (.int x1), none, none], [], (iq_sh l, q1.2, J, X))) (fun _ => rfl) hc_ ?_
    refine iq_G_go (k := 1) (σ' := (9, [some (.ref 61), some (.int x1), none, none], [.int (0 : Int32)], (iq_sh l, q1.2, J, X))) (fun _ => rfl) ?_
    cases h
    exact iq_G_ret (fun _ => rfl)
set_option maxRecDepth 100000 in
theorem zR_readTest_73_ok {D : Nat} (l : Nat) (R : Nat → Int32 → iq_I → Option (Int32 × iq_I))  (hR : ∀ (t : Nat) (x : Int32) (I : iq_I) (J : iq_J) (X : iq_X) (q : Int32 × iq_I), R t x I = some q → iq_Cc D t [.ref 61, .int x] (iq_sh l, I, J, X) (.inl (some (.int q.1)), (iq_sh l, q.2, J, X))) (hD : 6 ≤ D) (s1 : Int32) (I : iq_I) (J : iq_J) (X : iq_X)  {q : Int32 × iq_I} (h : zR_readTest_73 R s1 I = some q)  : iq_Gg D 102 (73, [none, none, none], [.int s1, .ref 42], (iq_sh l, I, J, X)) (.inl (some (.int q.1)), (iq_sh l, q.2, J, X)) := by
  unfold zR_readTest_73 at h
  obtain ⟨q5, hq5, h⟩ := iq_bnd h
  refine iq_G_call (σ' := (76, [none, none, none], [], (iq_sh l, q5, J, X))) (fun _ => rfl) (zE_step_ok l s1 I J X hq5) (Nat.ble_eq_true_of_le (by omega)) rfl ?_
  refine iq_G_go (k := 1) (σ' := (77, [none, none, none], [.int (1 : Int32)], (iq_sh l, q5, J, X))) (fun _ => rfl) ?_
  cases h
  exact iq_G_ret (fun _ => rfl)
set_option maxRecDepth 100000 in
theorem zR_readTest_38_ok {D : Nat} (l : Nat) (R : Nat → Int32 → iq_I → Option (Int32 × iq_I))  (hR : ∀ (t : Nat) (x : Int32) (I : iq_I) (J : iq_J) (X : iq_X) (q : Int32 × iq_I), R t x I = some q → iq_Cc D t [.ref 61, .int x] (iq_sh l, I, J, X) (.inl (some (.int q.1)), (iq_sh l, q.2, J, X))) (hD : 6 ≤ D) (x1 : Int32) (x2 : Int32) (I : iq_I) (J : iq_J) (X : iq_X)  {q : Int32 × iq_I} (h : zR_readTest_38 R x1 x2 I = some q)  : iq_Gg D 102 (38, [some (.ref 61), some (.int x1), some (.int x2)], [], (iq_sh l, I, J, X)) (.inl (some (.int q.1)), (iq_sh l, q.2, J, X)) := by
  unfold zR_readTest_38 at h
  refine iq_G_go (k := 2) (σ' := (42, [some (.ref 61), some (.int x1), some (.int x2)], [.ref 62], (iq_sh l, I, J, X))) (fun _ => rfl) ?_
  obtain ⟨q3, hq3, h⟩ := iq_bnd h
  refine iq_G_call (σ' := (45, [some (.ref 61), some (.int x1), some (.int x2)], [], (iq_sh l, q3, J, X))) (fun _ => rfl) (zT_next_ok l  I J X hq3) (Nat.ble_eq_true_of_le (by omega)) rfl ?_
  refine iq_G_go (k := 2) (σ' := (47, [some (.ref 61), some (.int x1), some (.int x2)], [.int x1, .ref 61], (iq_sh l, q3, J, X))) (fun _ => rfl) ?_
  obtain ⟨q4, hq4, h⟩ := iq_bnd h
  refine iq_G_call (σ' := (50, [some (.ref 61), some (.int x1), some (.int x2)], [.int q4.1], (iq_sh l, q4.2, J, X))) (fun _ => rfl) (hR 103 x1 q3 J X q4 hq4) (Nat.ble_eq_true_of_le (Nat.le_refl _)) rfl ?_
  rcases iq_ite h with ⟨hc_, h⟩ | ⟨hc_, h⟩
  · refine iq_G_pos (c := ¬ q4.1 = 0) (σ1 := (55, [some (.ref 61), some (.int x1), some (.int x2)], [], (iq_sh l, q4.2, J, X))) (fun _ => rfl) hc_ ?_
    refine iq_G_go (k := 4) (σ' := (63, [some (.ref 61), some (.int x1), some (.int x2)], [.int x2, .ref 42], (iq_sh l, q4.2, J, X))) (fun _ => rfl) ?_
    rcases iq_ite h with ⟨hc_, h⟩ | ⟨hc_, h⟩
    · refine iq_G_pos (c := x2 = 0) (σ1 := (71, [some (.ref 61), some (.int x1), some (.int x2)], [.ref 42], (iq_sh l, q4.2, J, X))) (fun _ => rfl) hc_ ?_
      refine iq_G_go (k := 1) (σ' := (73, [some (.ref 61), some (.int x1), some (.int x2)], [.int (-12 : Int32), .ref 42], (iq_sh l, q4.2, J, X))) (fun _ => rfl) ?_
      exact iq_G_fg (L := [none, none, none]) trivial (zR_readTest_73_ok l R hR hD (-12 : Int32) q4.2 J X  h )
    · refine iq_G_neg (c := x2 = 0) (σ1 := (66, [some (.ref 61), some (.int x1), some (.int x2)], [.ref 42], (iq_sh l, q4.2, J, X))) (fun _ => rfl) hc_ ?_
      refine iq_G_go (k := 2) (σ' := (73, [some (.ref 61), some (.int x1), some (.int x2)], [.int (-11 : Int32), .ref 42], (iq_sh l, q4.2, J, X))) (fun _ => rfl) ?_
      exact iq_G_fg (L := [none, none, none]) trivial (zR_readTest_73_ok l R hR hD (-11 : Int32) q4.2 J X  h )
  · refine iq_G_neg (c := ¬ q4.1 = 0) (σ1 := (53, [some (.ref 61), some (.int x1), some (.int x2)], [], (iq_sh l, q4.2, J, X))) (fun _ => rfl) hc_ ?_
    refine iq_G_go (k := 1) (σ' := (54, [some (.ref 61), some (.int x1), some (.int x2)], [.int (0 : Int32)], (iq_sh l, q4.2, J, X))) (fun _ => rfl) ?_
    cases h
    exact iq_G_ret (fun _ => rfl)
set_option maxRecDepth 100000 in
theorem zR_readTest_ok {D : Nat} (l : Nat) (R : Nat → Int32 → iq_I → Option (Int32 × iq_I))  (hR : ∀ (t : Nat) (x : Int32) (I : iq_I) (J : iq_J) (X : iq_X) (q : Int32 × iq_I), R t x I = some q → iq_Cc D t [.ref 61, .int x] (iq_sh l, I, J, X) (.inl (some (.int q.1)), (iq_sh l, q.2, J, X))) (hD : 6 ≤ D) (x1 : Int32) (I : iq_I) (J : iq_J) (X : iq_X) {q : Int32 × iq_I} (h : zR_readTest R x1 I = some q) : iq_Cc (D + 1) 102 [.ref 61, .int x1] (iq_sh l, I, J, X) (.inl (some (.int q.1)), (iq_sh l, q.2, J, X)) := by
  refine iq_Cc_of (L := [some (.ref 61), some (.int x1), none]) rfl rfl ?_
  unfold zR_readTest at h
  refine iq_G_go (k := 2) (σ' := (2, [some (.ref 61), some (.int x1), none], [.int x1, .ref 61], (iq_sh l, I, J, X))) (fun _ => rfl) ?_
  obtain ⟨q1, hq1, h⟩ := iq_bnd h
  refine iq_G_call (σ' := (5, [some (.ref 61), some (.int x1), none], [.int q1.1], (iq_sh l, q1.2, J, X))) (fun _ => rfl) (hR 103 x1 I J X q1 hq1) (Nat.ble_eq_true_of_le (Nat.le_refl _)) rfl ?_
  rcases iq_ite h with ⟨hc_, h⟩ | ⟨hc_, h⟩
  · refine iq_G_pos (c := ¬ q1.1 = 0) (σ1 := (10, [some (.ref 61), some (.int x1), none], [], (iq_sh l, q1.2, J, X))) (fun _ => rfl) hc_ ?_
    refine iq_G_go (k := 3) (σ' := (16, [some (.ref 61), some (.int x1), none], [.int (60 : Int32), .ref 62], (iq_sh l, q1.2, J, X))) (fun _ => rfl) ?_
    obtain ⟨q2, hq2, h⟩ := iq_bnd h
    refine iq_G_call (σ' := (19, [some (.ref 61), some (.int x1), none], [.int q2], (iq_sh l, q1.2, J, X))) (fun _ => rfl) (zT_isSign_ok l (60 : Int32) q1.2 J X hq2) (Nat.ble_eq_true_of_le (by omega)) rfl ?_
    refine iq_G_go (k := 2) (σ' := (21, [some (.ref 61), some (.int x1), some (.int q2)], [.int q2], (iq_sh l, q1.2, J, X))) (fun _ => rfl) ?_
    rcases iq_ite h with ⟨hc_, h⟩ | ⟨hc_, h⟩
    · refine iq_G_pos (c := ¬ q2 = 0) (σ1 := (38, [some (.ref 61), some (.int x1), some (.int q2)], [], (iq_sh l, q1.2, J, X))) (fun _ => rfl) hc_ ?_
      exact iq_G_fg (L := [some (.ref 61), some (.int x1), some (.int q2)]) (And.intro rfl (And.intro rfl (And.intro rfl trivial))) (zR_readTest_38_ok l R hR hD x1 q2 q1.2 J X  h )
    · refine iq_G_neg (c := ¬ q2 = 0) (σ1 := (24, [some (.ref 61), some (.int x1), some (.int q2)], [], (iq_sh l, q1.2, J, X))) (fun _ => rfl) hc_ ?_
      refine iq_G_go (k := 3) (σ' := (30, [some (.ref 61), some (.int x1), some (.int q2)], [.int (61 : Int32), .ref 62], (iq_sh l, q1.2, J, X))) (fun _ => rfl) ?_
      obtain ⟨q6, hq6, h⟩ := iq_bnd h
      refine iq_G_call (σ' := (33, [some (.ref 61), some (.int x1), some (.int q2)], [.int q6], (iq_sh l, q1.2, J, X))) (fun _ => rfl) (zT_isSign_ok l (61 : Int32) q1.2 J X hq6) (Nat.ble_eq_true_of_le (by omega)) rfl ?_
      rcases iq_ite h with ⟨hc_, h⟩ | ⟨hc_, h⟩
      · refine iq_G_pos (c := ¬ q6 = 0) (σ1 := (38, [some (.ref 61), some (.int x1), some (.int q2)], [], (iq_sh l, q1.2, J, X))) (fun _ => rfl) hc_ ?_
        exact iq_G_fg (L := [some (.ref 61), some (.int x1), some (.int q2)]) (And.intro rfl (And.intro rfl (And.intro rfl trivial))) (zR_readTest_38_ok l R hR hD x1 q2 q1.2 J X  h )
      · refine iq_G_neg (c := ¬ q6 = 0) (σ1 := (36, [some (.ref 61), some (.int x1), some (.int q2)], [], (iq_sh l, q1.2, J, X))) (fun _ => rfl) hc_ ?_
        refine iq_G_go (k := 1) (σ' := (37, [some (.ref 61), some (.int x1), some (.int q2)], [.int (1 : Int32)], (iq_sh l, q1.2, J, X))) (fun _ => rfl) ?_
        cases h
        exact iq_G_ret (fun _ => rfl)
  · refine iq_G_neg (c := ¬ q1.1 = 0) (σ1 := (8, [some (.ref 61), some (.int x1), none], [], (iq_sh l, q1.2, J, X))) (fun _ => rfl) hc_ ?_
    refine iq_G_go (k := 1) (σ' := (9, [some (.ref 61), some (.int x1), none], [.int (0 : Int32)], (iq_sh l, q1.2, J, X))) (fun _ => rfl) ?_
    cases h
    exact iq_G_ret (fun _ => rfl)
set_option maxRecDepth 100000 in
theorem zR_readNot_l2_bok {D : Nat} (l : Nat) (R : Nat → Int32 → iq_I → Option (Int32 × iq_I))  (hR : ∀ (t : Nat) (x : Int32) (I : iq_I) (J : iq_J) (X : iq_X) (q : Int32 × iq_I), R t x I = some q → iq_Cc D t [.ref 61, .int x] (iq_sh l, I, J, X) (.inl (some (.int q.1)), (iq_sh l, q.2, J, X))) (hD : 6 ≤ D) (x1 : Int32) (J : iq_J) (X : iq_X) (x2 : Int32) (I : iq_I) {q : (Int32 × iq_I) ⊕ ((Int32 × iq_I) ⊕ (Int32 × iq_I))} (h : zR_readNot_l2_b R x1 x2 I = some q) (r : iq_R × iq_M) (hc : ∀ v, q = .inl v → iq_Gg D 101 (2, [some (.ref 61), some (.int x1), some (.int v.1), none], [], (iq_sh l, v.2, J, X)) r) (hx : ∀ w, q = .inr w → (∀ a, w = .inl a → iq_Gg D 101 (45, [some (.ref 61), some (.int x1), some (.int a.1), none], [], (iq_sh l, a.2, J, X)) r) ∧ (∀ b, w = .inr b → r = (.inl (some (.int b.1)), (iq_sh l, b.2, J, X)))) : iq_Gg D 101 (2, [some (.ref 61), some (.int x1), some (.int x2), none], [], (iq_sh l, I, J, X)) r := by
  unfold zR_readNot_l2_b at h
  refine iq_G_go (k := 2) (σ' := (5, [some (.ref 61), some (.int x1), some (.int x2), none], [.int (6 : Int32), .int x2], (iq_sh l, I, J, X))) (fun _ => rfl) ?_
  rcases iq_ite h with ⟨hc_, h⟩ | ⟨hc_, h⟩
  · refine iq_G_pos (c := (6 : Int32) < x2) (σ1 := (45, [some (.ref 61), some (.int x1), some (.int x2), none], [], (iq_sh l, I, J, X))) (fun _ => rfl) hc_ ?_
    cases h
    exact iq_G_fg (L := [some (.ref 61), some (.int x1), some (.int x2), none]) (And.intro rfl (And.intro rfl (And.intro rfl trivial))) ((hx (.inl (x2, I)) rfl).1 (x2, I) rfl)
  · refine iq_G_neg (c := (6 : Int32) < x2) (σ1 := (8, [some (.ref 61), some (.int x1), some (.int x2), none], [], (iq_sh l, I, J, X))) (fun _ => rfl) hc_ ?_
    refine iq_G_go (k := 3) (σ' := (14, [some (.ref 61), some (.int x1), some (.int x2), none], [.ref 5009, .ref 62], (iq_sh l, I, J, X))) (fun _ => rfl) ?_
    obtain ⟨q1, hq1, h⟩ := iq_bnd h
    refine iq_G_call (σ' := (17, [some (.ref 61), some (.int x1), some (.int x2), none], [.int q1], (iq_sh l, I, J, X))) (fun _ => rfl) (zT_isWord_62_5009_ok l  I J X hq1) (Nat.ble_eq_true_of_le (by omega)) rfl ?_
    rcases iq_ite h with ⟨hc_, h⟩ | ⟨hc_, h⟩
    · refine iq_G_pos (c := q1 = 0) (σ1 := (45, [some (.ref 61), some (.int x1), some (.int x2), none], [], (iq_sh l, I, J, X))) (fun _ => rfl) hc_ ?_
      cases h
      exact iq_G_fg (L := [some (.ref 61), some (.int x1), some (.int x2), none]) (And.intro rfl (And.intro rfl (And.intro rfl trivial))) ((hx (.inl (x2, I)) rfl).1 (x2, I) rfl)
    · refine iq_G_neg (c := q1 = 0) (σ1 := (20, [some (.ref 61), some (.int x1), some (.int x2), none], [], (iq_sh l, I, J, X))) (fun _ => rfl) hc_ ?_
      refine iq_G_go (k := 3) (σ' := (26, [some (.ref 61), some (.int x1), some (.int (x2 + (1 : Int32))), none], [.int (6 : Int32), .int (x2 + (1 : Int32))], (iq_sh l, I, J, X))) (fun _ => rfl) ?_
      rcases iq_ite h with ⟨hc_, h⟩ | ⟨hc_, h⟩
      · refine iq_G_pos (c := (x2 + (1 : Int32)) ≤ (6 : Int32)) (σ1 := (35, [some (.ref 61), some (.int x1), some (.int (x2 + (1 : Int32))), none], [], (iq_sh l, I, J, X))) (fun _ => rfl) hc_ ?_
        refine iq_G_go (k := 2) (σ' := (39, [some (.ref 61), some (.int x1), some (.int (x2 + (1 : Int32))), none], [.ref 62], (iq_sh l, I, J, X))) (fun _ => rfl) ?_
        obtain ⟨q2, hq2, h⟩ := iq_bnd h
        refine iq_G_call (σ' := (42, [some (.ref 61), some (.int x1), some (.int (x2 + (1 : Int32))), none], [], (iq_sh l, q2, J, X))) (fun _ => rfl) (zT_next_ok l  I J X hq2) (Nat.ble_eq_true_of_le (by omega)) rfl ?_
        refine iq_G_go (k := 1) (σ' := (2, [some (.ref 61), some (.int x1), some (.int (x2 + (1 : Int32))), none], [], (iq_sh l, q2, J, X))) (fun _ => rfl) ?_
        cases h
        exact iq_G_fg (L := [some (.ref 61), some (.int x1), some (.int (x2 + (1 : Int32))), none]) (And.intro rfl (And.intro rfl (And.intro rfl trivial))) (hc ((x2 + (1 : Int32)), q2) rfl)
      · refine iq_G_neg (c := (x2 + (1 : Int32)) ≤ (6 : Int32)) (σ1 := (29, [some (.ref 61), some (.int x1), some (.int (x2 + (1 : Int32))), none], [], (iq_sh l, I, J, X))) (fun _ => rfl) hc_ ?_
        refine iq_G_go (k := 2) (σ' := (31, [some (.ref 61), some (.int x1), some (.int (x2 + (1 : Int32))), none], [.int (2 : Int32), .ref 61], (iq_sh l, I, J, X))) (fun _ => rfl) ?_
        obtain ⟨q3, hq3, h⟩ := iq_bnd h
        refine iq_G_call (σ' := (34, [some (.ref 61), some (.int x1), some (.int (x2 + (1 : Int32))), none], [.int q3.1], (iq_sh l, q3.2, J, X))) (fun _ => rfl) (zR_refuse_ok l (2 : Int32) I J X hq3) (Nat.ble_eq_true_of_le (by omega)) rfl ?_
        obtain ⟨hc_, h⟩ := iq_itn h
        cases h
        obtain rfl := (hx _ rfl).2 _ rfl
        exact iq_G_rif (c := q3.1 = 0 ∨ q3.1 = 1) (fun _ => rfl) hc_
set_option maxRecDepth 100000 in
theorem zR_readNot_l2_ok {D : Nat} (l : Nat) (R : Nat → Int32 → iq_I → Option (Int32 × iq_I))  (hR : ∀ (t : Nat) (x : Int32) (I : iq_I) (J : iq_J) (X : iq_X) (q : Int32 × iq_I), R t x I = some q → iq_Cc D t [.ref 61, .int x] (iq_sh l, I, J, X) (.inl (some (.int q.1)), (iq_sh l, q.2, J, X))) (hD : 6 ≤ D) (x1 : Int32) (J : iq_J) (X : iq_X) {n : Nat} {v : Int32 × iq_I} {w : (Int32 × iq_I) ⊕ (Int32 × iq_I)} (h : zR_readNot_l2 R x1 n v = some w) (r : iq_R × iq_M) (hq : (∀ a, w = .inl a → iq_Gg D 101 (45, [some (.ref 61), some (.int x1), some (.int a.1), none], [], (iq_sh l, a.2, J, X)) r) ∧ (∀ b, w = .inr b → r = (.inl (some (.int b.1)), (iq_sh l, b.2, J, X)))) : iq_Gg D 101 (2, [some (.ref 61), some (.int x1), some (.int v.1), none], [], (iq_sh l, v.2, J, X)) r :=
  iq_lp_ok (σ := fun v => (2, [some (.ref 61), some (.int x1), some (.int v.1), none], [], (iq_sh l, v.2, J, X))) (Q := fun w r => (∀ a, w = .inl a → iq_Gg D 101 (45, [some (.ref 61), some (.int x1), some (.int a.1), none], [], (iq_sh l, a.2, J, X)) r) ∧ (∀ b, w = .inr b → r = (.inl (some (.int b.1)), (iq_sh l, b.2, J, X)))) (fun v q hv r h1 h2 => zR_readNot_l2_bok l R hR hD x1 J X v.1 v.2 hv r h1 h2) h r hq
set_option maxRecDepth 100000 in
theorem zR_readNot_l57_bok {D : Nat} (l : Nat) (R : Nat → Int32 → iq_I → Option (Int32 × iq_I))  (hR : ∀ (t : Nat) (x : Int32) (I : iq_I) (J : iq_J) (X : iq_X) (q : Int32 × iq_I), R t x I = some q → iq_Cc D t [.ref 61, .int x] (iq_sh l, I, J, X) (.inl (some (.int q.1)), (iq_sh l, q.2, J, X))) (hD : 6 ≤ D) (x2 : Int32) (J : iq_J) (X : iq_X) (x3 : Int32) (I : iq_I) {q : (Int32 × iq_I) ⊕ (iq_I)} (h : zR_readNot_l57_b R x2 x3 I = some q) (r : iq_R × iq_M) (hc : ∀ v, q = .inl v → iq_Gg D 101 (57, [some (.ref 61), none, some (.int x2), some (.int v.1)], [], (iq_sh l, v.2, J, X)) r) (hx : ∀ w, q = .inr w → iq_Gg D 101 (80, [none, none, none, none], [], (iq_sh l, w, J, X)) r) : iq_Gg D 101 (57, [some (.ref 61), none, some (.int x2), some (.int x3)], [], (iq_sh l, I, J, X)) r := by
  unfold zR_readNot_l57_b at h
  refine iq_G_go (k := 2) (σ' := (59, [some (.ref 61), none, some (.int x2), some (.int x3)], [.int x2, .int x3], (iq_sh l, I, J, X))) (fun _ => rfl) ?_
  rcases iq_ite h with ⟨hc_, h⟩ | ⟨hc_, h⟩
  · refine iq_G_pos (c := x2 ≤ x3) (σ1 := (80, [some (.ref 61), none, some (.int x2), some (.int x3)], [], (iq_sh l, I, J, X))) (fun _ => rfl) hc_ ?_
    cases h
    exact iq_G_fg (L := [none, none, none, none]) trivial (hx I rfl)
  · refine iq_G_neg (c := x2 ≤ x3) (σ1 := (62, [some (.ref 61), none, some (.int x2), some (.int x3)], [], (iq_sh l, I, J, X))) (fun _ => rfl) hc_ ?_
    refine iq_G_go (k := 4) (σ' := (71, [some (.ref 61), none, some (.int x2), some (.int x3)], [.int (-8 : Int32), .ref 42], (iq_sh l, I, J, X))) (fun _ => rfl) ?_
    obtain ⟨q8, hq8, h⟩ := iq_bnd h
    refine iq_G_call (σ' := (74, [some (.ref 61), none, some (.int x2), some (.int x3)], [], (iq_sh l, q8, J, X))) (fun _ => rfl) (zE_step_ok l (-8 : Int32) I J X hq8) (Nat.ble_eq_true_of_le (by omega)) rfl ?_
    refine iq_G_go (k := 2) (σ' := (57, [some (.ref 61), none, some (.int x2), some (.int (x3 + (1 : Int32)))], [], (iq_sh l, q8, J, X))) (fun _ => rfl) ?_
    cases h
    exact iq_G_fg (L := [some (.ref 61), none, some (.int x2), some (.int (x3 + (1 : Int32)))]) (And.intro rfl (And.intro rfl (And.intro rfl trivial))) (hc ((x3 + (1 : Int32)), q8) rfl)
set_option maxRecDepth 100000 in
theorem zR_readNot_l57_ok {D : Nat} (l : Nat) (R : Nat → Int32 → iq_I → Option (Int32 × iq_I))  (hR : ∀ (t : Nat) (x : Int32) (I : iq_I) (J : iq_J) (X : iq_X) (q : Int32 × iq_I), R t x I = some q → iq_Cc D t [.ref 61, .int x] (iq_sh l, I, J, X) (.inl (some (.int q.1)), (iq_sh l, q.2, J, X))) (hD : 6 ≤ D) (x2 : Int32) (J : iq_J) (X : iq_X) {n : Nat} {v : Int32 × iq_I} {w : iq_I} (h : zR_readNot_l57 R x2 n v = some w) (r : iq_R × iq_M) (hq : iq_Gg D 101 (80, [none, none, none, none], [], (iq_sh l, w, J, X)) r) : iq_Gg D 101 (57, [some (.ref 61), none, some (.int x2), some (.int v.1)], [], (iq_sh l, v.2, J, X)) r :=
  iq_lp_ok (σ := fun v => (57, [some (.ref 61), none, some (.int x2), some (.int v.1)], [], (iq_sh l, v.2, J, X))) (Q := fun w r => iq_Gg D 101 (80, [none, none, none, none], [], (iq_sh l, w, J, X)) r) (fun v q hv r h1 h2 => zR_readNot_l57_bok l R hR hD x2 J X v.1 v.2 hv r h1 h2) h r hq
set_option maxRecDepth 100000 in
theorem zR_readNot_45_ok {D : Nat} (l : Nat) (R : Nat → Int32 → iq_I → Option (Int32 × iq_I))  (hR : ∀ (t : Nat) (x : Int32) (I : iq_I) (J : iq_J) (X : iq_X) (q : Int32 × iq_I), R t x I = some q → iq_Cc D t [.ref 61, .int x] (iq_sh l, I, J, X) (.inl (some (.int q.1)), (iq_sh l, q.2, J, X))) (hD : 6 ≤ D) (x1 : Int32) (x2 : Int32) (I : iq_I) (J : iq_J) (X : iq_X)  {q : Int32 × iq_I} (h : zR_readNot_45 R x1 x2 I = some q)  : iq_Gg D 101 (45, [some (.ref 61), some (.int x1), some (.int x2), none], [], (iq_sh l, I, J, X)) (.inl (some (.int q.1)), (iq_sh l, q.2, J, X)) := by
  unfold zR_readNot_45 at h
  refine iq_G_go (k := 2) (σ' := (47, [some (.ref 61), some (.int x1), some (.int x2), none], [.int x1, .ref 61], (iq_sh l, I, J, X))) (fun _ => rfl) ?_
  obtain ⟨q7, hq7, h⟩ := iq_bnd h
  refine iq_G_call (σ' := (50, [some (.ref 61), some (.int x1), some (.int x2), none], [.int q7.1], (iq_sh l, q7.2, J, X))) (fun _ => rfl) (hR 102 x1 I J X q7 hq7) (Nat.ble_eq_true_of_le (Nat.le_refl _)) rfl ?_
  rcases iq_ite h with ⟨hc_, h⟩ | ⟨hc_, h⟩
  · refine iq_G_pos (c := ¬ q7.1 = 0) (σ1 := (55, [some (.ref 61), some (.int x1), some (.int x2), none], [], (iq_sh l, q7.2, J, X))) (fun _ => rfl) hc_ ?_
    refine iq_G_go (k := 2) (σ' := (57, [some (.ref 61), some (.int x1), some (.int x2), some (.int (0 : Int32))], [], (iq_sh l, q7.2, J, X))) (fun _ => rfl) ?_
    obtain ⟨w9, hw9, h⟩ := iq_bnd h
    refine iq_G_fg (L := [some (.ref 61), none, some (.int x2), some (.int (0 : Int32))]) (And.intro rfl (And.intro rfl (And.intro rfl trivial))) ?_
    refine zR_readNot_l57_ok l R hR hD x2 J X hw9 _ ?_
    show iq_Gg D 101 (80, [none, none, none, none], [], (iq_sh l, w9, J, X)) _
    refine iq_G_go (k := 1) (σ' := (81, [none, none, none, none], [.int (1 : Int32)], (iq_sh l, w9, J, X))) (fun _ => rfl) ?_
    cases h
    exact iq_G_ret (fun _ => rfl)
  · refine iq_G_neg (c := ¬ q7.1 = 0) (σ1 := (53, [some (.ref 61), some (.int x1), some (.int x2), none], [], (iq_sh l, q7.2, J, X))) (fun _ => rfl) hc_ ?_
    refine iq_G_go (k := 1) (σ' := (54, [some (.ref 61), some (.int x1), some (.int x2), none], [.int (0 : Int32)], (iq_sh l, q7.2, J, X))) (fun _ => rfl) ?_
    cases h
    exact iq_G_ret (fun _ => rfl)
set_option maxRecDepth 100000 in
theorem zR_readNot_ok {D : Nat} (l : Nat) (R : Nat → Int32 → iq_I → Option (Int32 × iq_I))  (hR : ∀ (t : Nat) (x : Int32) (I : iq_I) (J : iq_J) (X : iq_X) (q : Int32 × iq_I), R t x I = some q → iq_Cc D t [.ref 61, .int x] (iq_sh l, I, J, X) (.inl (some (.int q.1)), (iq_sh l, q.2, J, X))) (hD : 6 ≤ D) (x1 : Int32) (I : iq_I) (J : iq_J) (X : iq_X) {q : Int32 × iq_I} (h : zR_readNot R x1 I = some q) : iq_Cc (D + 1) 101 [.ref 61, .int x1] (iq_sh l, I, J, X) (.inl (some (.int q.1)), (iq_sh l, q.2, J, X)) := by
  refine iq_Cc_of (L := [some (.ref 61), some (.int x1), none, none]) rfl rfl ?_
  unfold zR_readNot at h
  refine iq_G_go (k := 2) (σ' := (2, [some (.ref 61), some (.int x1), some (.int (0 : Int32)), none], [], (iq_sh l, I, J, X))) (fun _ => rfl) ?_
  obtain ⟨w4, hw4, h⟩ := iq_bnd h
  refine iq_G_fg (L := [some (.ref 61), some (.int x1), some (.int (0 : Int32)), none]) (And.intro rfl (And.intro rfl (And.intro rfl trivial))) ?_
  refine zR_readNot_l2_ok l R hR hD x1 J X hw4 _ ⟨fun a5 ha => ?_, fun b6 hb => ?_⟩
  · subst ha
    replace h := ir_smL h
    show iq_Gg D 101 (45, [some (.ref 61), some (.int x1), some (.int a5.1), none], [], (iq_sh l, a5.2, J, X)) _
    exact iq_G_fg (L := [some (.ref 61), some (.int x1), some (.int a5.1), none]) (And.intro rfl (And.intro rfl (And.intro rfl trivial))) (zR_readNot_45_ok l R hR hD x1 a5.1 a5.2 J X  h )
  · subst hb
    replace h := ir_smR h
    cases h
    rfl
set_option maxRecDepth 100000 in
theorem zS_J0_coder_7d493_5016_ok (l : Nat)   (I : iq_I) (J : iq_J) (X : iq_X) {q : Int32} (h : zS_J0_coder_7d493_5016 I = some q) : iq_Cc 1 316 [.ref 5016] (iq_sh l, I, J, X) (.inl (some (.int q)), (iq_sh l, I, J, X)) := by
  refine iq_Cc_of (L := [some (.ref 5016)]) rfl rfl ?_
  unfold zS_J0_coder_7d493_5016 at h
  refine iq_G_go (k := 1) (σ' := (3, [some (.ref 5016)], [.int (1 : Int32)], (iq_sh l, I, J, X))) (fun _ => rfl) ?_
  refine iq_G_go (k := 1) (σ' := (6, [some (.ref 5016)], [], (iq_sh l, I, J, X))) (fun _ => rfl) ?_
  refine iq_G_go (k := 3) (σ' := (14, [some (.ref 5016)], [.int (0 : Int32)], (iq_sh l, I, J, X))) (fun _ => rfl) ?_
  cases h
  exact iq_G_ret (fun _ => rfl)
set_option maxRecDepth 100000 in
theorem zS_J0_length_8abf5_5016_ok (l : Nat)   (I : iq_I) (J : iq_J) (X : iq_X) {q : Int32} (h : zS_J0_length_8abf5_5016 I = some q) : iq_Cc 2 312 [.ref 5016] (iq_sh l, I, J, X) (.inl (some (.int q)), (iq_sh l, I, J, X)) := by
  refine iq_Cc_of (L := [some (.ref 5016)]) rfl rfl ?_
  unfold zS_J0_length_8abf5_5016 at h
  refine iq_G_go (k := 4) (σ' := (6, [some (.ref 5016)], [.ref 5016, .int (3 : Int32)], (iq_sh l, I, J, X))) (fun _ => rfl) ?_
  obtain ⟨q1, hq1, h⟩ := iq_bnd h
  refine iq_G_call (σ' := (9, [some (.ref 5016)], [.int q1, .int (3 : Int32)], (iq_sh l, I, J, X))) (fun _ => rfl) (zS_J0_coder_7d493_5016_ok l  I J X hq1) rfl rfl ?_
  refine iq_G_go (k := 1) (σ' := (10, [some (.ref 5016)], [.int ((3 : Int32) >>> (q1 &&& 31))], (iq_sh l, I, J, X))) (fun _ => rfl) ?_
  cases h
  exact iq_G_ret (fun _ => rfl)
set_option maxRecDepth 100000 in
theorem zS_J0_isLatin1_aae02_5016_ok (l : Nat)   (I : iq_I) (J : iq_J) (X : iq_X) {q : Int32} (h : zS_J0_isLatin1_aae02_5016 I = some q) : iq_Cc 1 317 [.ref 5016] (iq_sh l, I, J, X) (.inl (some (.int q)), (iq_sh l, I, J, X)) := by
  refine iq_Cc_of (L := [some (.ref 5016)]) rfl rfl ?_
  unfold zS_J0_isLatin1_aae02_5016 at h
  refine iq_G_go (k := 1) (σ' := (3, [some (.ref 5016)], [.int (1 : Int32)], (iq_sh l, I, J, X))) (fun _ => rfl) ?_
  refine iq_G_go (k := 1) (σ' := (6, [some (.ref 5016)], [], (iq_sh l, I, J, X))) (fun _ => rfl) ?_
  refine iq_G_go (k := 2) (σ' := (10, [some (.ref 5016)], [.int (0 : Int32)], (iq_sh l, I, J, X))) (fun _ => rfl) ?_
  refine iq_G_go (k := 1) (σ' := (13, [some (.ref 5016)], [], (iq_sh l, I, J, X))) (fun _ => rfl) ?_
  refine iq_G_go (k := 2) (σ' := (18, [some (.ref 5016)], [.int (1 : Int32)], (iq_sh l, I, J, X))) (fun _ => rfl) ?_
  cases h
  exact iq_G_ret (fun _ => rfl)
set_option maxRecDepth 100000 in
theorem zS_J1_charAt_3b067_6016_ok (l : Nat)  (x1 : Int32) (I : iq_I) (J : iq_J) (X : iq_X) {q : Int32} (h : zS_J1_charAt_3b067_6016 x1 I = some q) : iq_Cc 3 319 [.ref 6016, .int x1] (iq_sh l, I, J, X) (.inl (some (.int q)), (iq_sh l, I, J, X)) := by
  refine iq_Cc_of (L := [some (.ref 6016), some (.int x1)]) rfl rfl ?_
  unfold zS_J1_charAt_3b067_6016 at h
  refine iq_G_go (k := 3) (σ' := (3, [some (.ref 6016), some (.int x1)], [.int (3 : Int32), .int x1], (iq_sh l, I, J, X))) (fun _ => rfl) ?_
  obtain ⟨q1, hq1, h⟩ := iq_bnd h
  refine iq_G_call (σ' := (6, [some (.ref 6016), some (.int x1)], [], (iq_sh l, I, J, X))) (fun _ => rfl) (zS_J0_checkIndex_df160_ok l x1 (3 : Int32) I J X hq1) rfl rfl ?_
  refine iq_G_go (k := 2) (σ' := (8, [some (.ref 6016), some (.int x1)], [.int x1, .ref 6016], (iq_sh l, I, J, X))) (fun _ => rfl) ?_
  obtain ⟨hc_, h⟩ := iq_itn h
  refine iq_G_pos (c := iq_in x1 3) (σ1 := (9, [some (.ref 6016), some (.int x1)], [.int (ir_chr 16 (Int32.toNatClampNeg x1))], (iq_sh l, I, J, X))) (fun _ => rfl) hc_ ?_
  refine iq_G_go (k := 3) (σ' := (14, [some (.ref 6016), some (.int x1)], [.int ((Int32.toUInt32 ((ir_chr 16 (Int32.toNatClampNeg x1)) &&& (255 : Int32)) % 65536).toInt32)], (iq_sh l, I, J, X))) (fun _ => rfl) ?_
  obtain ⟨hc_, h⟩ := iq_itn h
  have h := Option.some.inj h
  subst h
  exact iq_G_rif (c := narrow .char (.int ((Int32.toUInt32 ((ir_chr 16 (Int32.toNatClampNeg x1)) &&& (255 : Int32)) % 65536).toInt32)) = .int ((Int32.toUInt32 ((ir_chr 16 (Int32.toNatClampNeg x1)) &&& (255 : Int32)) % 65536).toInt32)) (fun _ => rfl) hc_
set_option maxRecDepth 100000 in
theorem zS_J0_charAt_5068e_5016_ok (l : Nat)  (x1 : Int32) (I : iq_I) (J : iq_J) (X : iq_X) {q : Int32} (h : zS_J0_charAt_5068e_5016 x1 I = some q) : iq_Cc 4 313 [.ref 5016, .int x1] (iq_sh l, I, J, X) (.inl (some (.int q)), (iq_sh l, I, J, X)) := by
  refine iq_Cc_of (L := [some (.ref 5016), some (.int x1)]) rfl rfl ?_
  unfold zS_J0_charAt_5068e_5016 at h
  refine iq_G_go (k := 1) (σ' := (1, [some (.ref 5016), some (.int x1)], [.ref 5016], (iq_sh l, I, J, X))) (fun _ => rfl) ?_
  obtain ⟨q1, hq1, h⟩ := iq_bnd h
  refine iq_G_call (σ' := (4, [some (.ref 5016), some (.int x1)], [.int q1], (iq_sh l, I, J, X))) (fun _ => rfl) (zS_J0_isLatin1_aae02_5016_ok l  I J X hq1) rfl rfl ?_
  rcases iq_ite h with ⟨hc_, h⟩ | ⟨hc_, h⟩
  · refine iq_G_pos (c := q1 = 0) (σ1 := (16, [some (.ref 5016), some (.int x1)], [], (iq_sh l, I, J, X))) (fun _ => rfl) hc_ ?_
    cases h
  · refine iq_G_neg (c := q1 = 0) (σ1 := (7, [some (.ref 5016), some (.int x1)], [], (iq_sh l, I, J, X))) (fun _ => rfl) hc_ ?_
    refine iq_G_go (k := 3) (σ' := (12, [some (.ref 5016), some (.int x1)], [.int x1, .ref 6016], (iq_sh l, I, J, X))) (fun _ => rfl) ?_
    obtain ⟨q2, hq2, h⟩ := iq_bnd h
    refine iq_G_call (σ' := (15, [some (.ref 5016), some (.int x1)], [.int q2], (iq_sh l, I, J, X))) (fun _ => rfl) (zS_J1_charAt_3b067_6016_ok l x1 I J X hq2) rfl rfl ?_
    obtain ⟨hc_, h⟩ := iq_itn h
    have h := Option.some.inj h
    subst h
    exact iq_G_rif (c := narrow .char (.int q2) = .int q2) (fun _ => rfl) hc_
set_option maxRecDepth 100000 in
theorem zT_isWord_62_5016_l28_bok (l : Nat)   (I : iq_I) (J : iq_J) (X : iq_X) (x2 : Int32)  {q : (Int32) ⊕ ((Unit) ⊕ (Int32))} (h : zT_isWord_62_5016_l28_b I x2 = some q) (r : iq_R × iq_M) (hc : ∀ v, q = .inl v → iq_Gg 4 142 (28, [some (.ref 62), some (.ref 5016), some (.int v)], [], (iq_sh l, I, J, X)) r) (hx : ∀ w, q = .inr w → (∀ a, w = .inl a → iq_Gg 4 142 (63, [none, none, none], [], (iq_sh l, I, J, X)) r) ∧ (∀ b, w = .inr b → r = (.inl (some (.int b)), (iq_sh l, I, J, X)))) : iq_Gg 4 142 (28, [some (.ref 62), some (.ref 5016), some (.int x2)], [], (iq_sh l, I, J, X)) r := by
  unfold zT_isWord_62_5016_l28_b at h
  refine iq_G_go (k := 2) (σ' := (30, [some (.ref 62), some (.ref 5016), some (.int x2)], [.ref 5016, .int x2], (iq_sh l, I, J, X))) (fun _ => rfl) ?_
  obtain ⟨q2, hq2, h⟩ := iq_bnd h
  refine iq_G_call (σ' := (33, [some (.ref 62), some (.ref 5016), some (.int x2)], [.int q2, .int x2], (iq_sh l, I, J, X))) (fun _ => rfl) (zS_J0_length_8abf5_5016_ok l  I J X hq2) rfl rfl ?_
  rcases iq_ite h with ⟨hc_, h⟩ | ⟨hc_, h⟩
  · refine iq_G_pos (c := q2 ≤ x2) (σ1 := (63, [some (.ref 62), some (.ref 5016), some (.int x2)], [], (iq_sh l, I, J, X))) (fun _ => rfl) hc_ ?_
    cases h
    exact iq_G_fg (L := [none, none, none]) trivial ((hx (.inl ()) rfl).1 () rfl)
  · refine iq_G_neg (c := q2 ≤ x2) (σ1 := (36, [some (.ref 62), some (.ref 5016), some (.int x2)], [], (iq_sh l, I, J, X))) (fun _ => rfl) hc_ ?_
    refine iq_G_go (k := 6) (σ' := (46, [some (.ref 62), some (.ref 5016), some (.int x2)], [.int ((I 62 1) + x2), .ref 2], (iq_sh l, I, J, X))) (fun _ => rfl) ?_
    obtain ⟨hc_, h⟩ := iq_itn h
    refine iq_G_pos (c := iq_in ((I 62 1) + x2) 700) (σ1 := (47, [some (.ref 62), some (.ref 5016), some (.int x2)], [.int (I 2 (Int32.toNatClampNeg ((I 62 1) + x2)))], (iq_sh l, I, J, X))) (fun _ => rfl) hc_ ?_
    refine iq_G_go (k := 2) (σ' := (49, [some (.ref 62), some (.ref 5016), some (.int x2)], [.int x2, .ref 5016, .int (I 2 (Int32.toNatClampNeg ((I 62 1) + x2)))], (iq_sh l, I, J, X))) (fun _ => rfl) ?_
    obtain ⟨q3, hq3, h⟩ := iq_bnd h
    refine iq_G_call (σ' := (52, [some (.ref 62), some (.ref 5016), some (.int x2)], [.int q3, .int (I 2 (Int32.toNatClampNeg ((I 62 1) + x2)))], (iq_sh l, I, J, X))) (fun _ => rfl) (zS_J0_charAt_5068e_5016_ok l x2 I J X hq3) rfl rfl ?_
    rcases iq_ite h with ⟨hc_, h⟩ | ⟨hc_, h⟩
    · refine iq_G_pos (c := (I 2 (Int32.toNatClampNeg ((I 62 1) + x2))) = q3) (σ1 := (57, [some (.ref 62), some (.ref 5016), some (.int x2)], [], (iq_sh l, I, J, X))) (fun _ => rfl) hc_ ?_
      refine iq_G_go (k := 2) (σ' := (28, [some (.ref 62), some (.ref 5016), some (.int (x2 + (1 : Int32)))], [], (iq_sh l, I, J, X))) (fun _ => rfl) ?_
      cases h
      exact iq_G_fg (L := [some (.ref 62), some (.ref 5016), some (.int (x2 + (1 : Int32)))]) (And.intro rfl (And.intro rfl (And.intro rfl trivial))) (hc (x2 + (1 : Int32)) rfl)
    · refine iq_G_neg (c := (I 2 (Int32.toNatClampNeg ((I 62 1) + x2))) = q3) (σ1 := (55, [some (.ref 62), some (.ref 5016), some (.int x2)], [], (iq_sh l, I, J, X))) (fun _ => rfl) hc_ ?_
      refine iq_G_go (k := 1) (σ' := (56, [some (.ref 62), some (.ref 5016), some (.int x2)], [.int (0 : Int32)], (iq_sh l, I, J, X))) (fun _ => rfl) ?_
      cases h
      obtain rfl := (hx _ rfl).2 _ rfl
      exact iq_G_ret (fun _ => rfl)
set_option maxRecDepth 100000 in
theorem zT_isWord_62_5016_l28_ok (l : Nat)   (I : iq_I) (J : iq_J) (X : iq_X) {n : Nat} {v : Int32} {w : (Unit) ⊕ (Int32)} (h : zT_isWord_62_5016_l28 I n v = some w) (r : iq_R × iq_M) (hq : (∀ a, w = .inl a → iq_Gg 4 142 (63, [none, none, none], [], (iq_sh l, I, J, X)) r) ∧ (∀ b, w = .inr b → r = (.inl (some (.int b)), (iq_sh l, I, J, X)))) : iq_Gg 4 142 (28, [some (.ref 62), some (.ref 5016), some (.int v)], [], (iq_sh l, I, J, X)) r :=
  iq_lp_ok (σ := fun v => (28, [some (.ref 62), some (.ref 5016), some (.int v)], [], (iq_sh l, I, J, X))) (Q := fun w r => (∀ a, w = .inl a → iq_Gg 4 142 (63, [none, none, none], [], (iq_sh l, I, J, X)) r) ∧ (∀ b, w = .inr b → r = (.inl (some (.int b)), (iq_sh l, I, J, X)))) (fun v q hv r h1 h2 => zT_isWord_62_5016_l28_bok l I J X v hv r h1 h2) h r hq
set_option maxRecDepth 100000 in
theorem zT_isWord_62_5016_ok (l : Nat)   (I : iq_I) (J : iq_J) (X : iq_X) {q : Int32} (h : zT_isWord_62_5016 I = some q) : iq_Cc 5 142 [.ref 62, .ref 5016] (iq_sh l, I, J, X) (.inl (some (.int q)), (iq_sh l, I, J, X)) := by
  refine iq_Cc_of (L := [some (.ref 62), some (.ref 5016), none]) rfl rfl ?_
  unfold zT_isWord_62_5016 at h
  refine iq_G_go (k := 3) (σ' := (5, [some (.ref 62), some (.ref 5016), none], [.int (1 : Int32), .int (I 62 0)], (iq_sh l, I, J, X))) (fun _ => rfl) ?_
  rcases iq_ite h with ⟨hc_, h⟩ | ⟨hc_, h⟩
  · refine iq_G_pos (c := ¬ (I 62 0) = (1 : Int32)) (σ1 := (24, [some (.ref 62), some (.ref 5016), none], [], (iq_sh l, I, J, X))) (fun _ => rfl) hc_ ?_
    refine iq_G_go (k := 1) (σ' := (25, [some (.ref 62), some (.ref 5016), none], [.int (0 : Int32)], (iq_sh l, I, J, X))) (fun _ => rfl) ?_
    cases h
    exact iq_G_ret (fun _ => rfl)
  · refine iq_G_neg (c := ¬ (I 62 0) = (1 : Int32)) (σ1 := (8, [some (.ref 62), some (.ref 5016), none], [], (iq_sh l, I, J, X))) (fun _ => rfl) hc_ ?_
    refine iq_G_go (k := 6) (σ' := (18, [some (.ref 62), some (.ref 5016), none], [.ref 5016, .int ((I 62 4) - (I 62 1))], (iq_sh l, I, J, X))) (fun _ => rfl) ?_
    obtain ⟨q1, hq1, h⟩ := iq_bnd h
    refine iq_G_call (σ' := (21, [some (.ref 62), some (.ref 5016), none], [.int q1, .int ((I 62 4) - (I 62 1))], (iq_sh l, I, J, X))) (fun _ => rfl) (zS_J0_length_8abf5_5016_ok l  I J X hq1) rfl rfl ?_
    rcases iq_ite h with ⟨hc_, h⟩ | ⟨hc_, h⟩
    · have st_ : ∀ (z_0 : Int32) (r_ : iq_R × iq_M), z_0 = q1 → iq_Gg 4 142 (26, [some (.ref 62), some (.ref 5016), none], [], (iq_sh l, I, J, X)) r_ → iq_Gg 4 142 (21, [some (.ref 62), some (.ref 5016), none], [.int q1, .int z_0], (iq_sh l, I, J, X)) r_ := fun z_0 r_ hc_ hg_ => iq_G_pos (c := z_0 = q1) (σ1 := (26, [some (.ref 62), some (.ref 5016), none], [], (iq_sh l, I, J, X))) (fun _ => rfl) hc_ hg_
      refine st_ ((I 62 4) - (I 62 1)) _ hc_ ?_
      clear st_
      refine iq_G_go (k := 2) (σ' := (28, [some (.ref 62), some (.ref 5016), some (.int (0 : Int32))], [], (iq_sh l, I, J, X))) (fun _ => rfl) ?_
      obtain ⟨w4, hw4, h⟩ := iq_bnd h
      refine iq_G_fg (L := [some (.ref 62), some (.ref 5016), some (.int (0 : Int32))]) (And.intro rfl (And.intro rfl (And.intro rfl trivial))) ?_
      refine zT_isWord_62_5016_l28_ok l I J X hw4 _ ⟨fun a5 ha => ?_, fun b6 hb => ?_⟩
      · subst ha
        replace h := ir_smL h
        show iq_Gg 4 142 (63, [none, none, none], [], (iq_sh l, I, J, X)) _
        refine iq_G_go (k := 1) (σ' := (64, [none, none, none], [.int (1 : Int32)], (iq_sh l, I, J, X))) (fun _ => rfl) ?_
        cases h
        exact iq_G_ret (fun _ => rfl)
      · subst hb
        replace h := ir_smR h
        cases h
        rfl
    · have st_ : ∀ (z_0 : Int32) (r_ : iq_R × iq_M), ¬ (z_0 = q1) → iq_Gg 4 142 (24, [some (.ref 62), some (.ref 5016), none], [], (iq_sh l, I, J, X)) r_ → iq_Gg 4 142 (21, [some (.ref 62), some (.ref 5016), none], [.int q1, .int z_0], (iq_sh l, I, J, X)) r_ := fun z_0 r_ hc_ hg_ => iq_G_neg (c := z_0 = q1) (σ1 := (24, [some (.ref 62), some (.ref 5016), none], [], (iq_sh l, I, J, X))) (fun _ => rfl) hc_ hg_
      refine st_ ((I 62 4) - (I 62 1)) _ hc_ ?_
      clear st_
      refine iq_G_go (k := 1) (σ' := (25, [some (.ref 62), some (.ref 5016), none], [.int (0 : Int32)], (iq_sh l, I, J, X))) (fun _ => rfl) ?_
      cases h
      exact iq_G_ret (fun _ => rfl)
set_option maxRecDepth 100000 in
theorem zR_readAnd_l12_bok {D : Nat} (l : Nat) (R : Nat → Int32 → iq_I → Option (Int32 × iq_I))  (hR : ∀ (t : Nat) (x : Int32) (I : iq_I) (J : iq_J) (X : iq_X) (q : Int32 × iq_I), R t x I = some q → iq_Cc D t [.ref 61, .int x] (iq_sh l, I, J, X) (.inl (some (.int q.1)), (iq_sh l, q.2, J, X))) (hD : 6 ≤ D) (x1 : Int32) (J : iq_J) (X : iq_X) (x2 : Int32) (I : iq_I) {q : (Int32 × iq_I) ⊕ ((iq_I) ⊕ (Int32 × iq_I))} (h : zR_readAnd_l12_b R x1 x2 I = some q) (r : iq_R × iq_M) (hc : ∀ v, q = .inl v → iq_Gg D 100 (12, [some (.ref 61), some (.int x1), some (.int v.1)], [], (iq_sh l, v.2, J, X)) r) (hx : ∀ w, q = .inr w → (∀ a, w = .inl a → iq_Gg D 100 (66, [none, none, none], [], (iq_sh l, a, J, X)) r) ∧ (∀ b, w = .inr b → r = (.inl (some (.int b.1)), (iq_sh l, b.2, J, X)))) : iq_Gg D 100 (12, [some (.ref 61), some (.int x1), some (.int x2)], [], (iq_sh l, I, J, X)) r := by
  unfold zR_readAnd_l12_b at h
  refine iq_G_go (k := 2) (σ' := (16, [some (.ref 61), some (.int x1), some (.int x2)], [.int (700 : Int32), .int x2], (iq_sh l, I, J, X))) (fun _ => rfl) ?_
  rcases iq_ite h with ⟨hc_, h⟩ | ⟨hc_, h⟩
  · refine iq_G_pos (c := (700 : Int32) ≤ x2) (σ1 := (66, [some (.ref 61), some (.int x1), some (.int x2)], [], (iq_sh l, I, J, X))) (fun _ => rfl) hc_ ?_
    cases h
    exact iq_G_fg (L := [none, none, none]) trivial ((hx (.inl I) rfl).1 I rfl)
  · refine iq_G_neg (c := (700 : Int32) ≤ x2) (σ1 := (19, [some (.ref 61), some (.int x1), some (.int x2)], [], (iq_sh l, I, J, X))) (fun _ => rfl) hc_ ?_
    refine iq_G_go (k := 3) (σ' := (25, [some (.ref 61), some (.int x1), some (.int x2)], [.ref 5016, .ref 62], (iq_sh l, I, J, X))) (fun _ => rfl) ?_
    obtain ⟨q2, hq2, h⟩ := iq_bnd h
    refine iq_G_call (σ' := (28, [some (.ref 61), some (.int x1), some (.int x2)], [.int q2], (iq_sh l, I, J, X))) (fun _ => rfl) (zT_isWord_62_5016_ok l  I J X hq2) (Nat.ble_eq_true_of_le (by omega)) rfl ?_
    rcases iq_ite h with ⟨hc_, h⟩ | ⟨hc_, h⟩
    · refine iq_G_pos (c := q2 = 0) (σ1 := (66, [some (.ref 61), some (.int x1), some (.int x2)], [], (iq_sh l, I, J, X))) (fun _ => rfl) hc_ ?_
      cases h
      exact iq_G_fg (L := [none, none, none]) trivial ((hx (.inl I) rfl).1 I rfl)
    · refine iq_G_neg (c := q2 = 0) (σ1 := (31, [some (.ref 61), some (.int x1), some (.int x2)], [], (iq_sh l, I, J, X))) (fun _ => rfl) hc_ ?_
      refine iq_G_go (k := 2) (σ' := (35, [some (.ref 61), some (.int x1), some (.int x2)], [.ref 62], (iq_sh l, I, J, X))) (fun _ => rfl) ?_
      obtain ⟨q3, hq3, h⟩ := iq_bnd h
      refine iq_G_call (σ' := (38, [some (.ref 61), some (.int x1), some (.int x2)], [], (iq_sh l, q3, J, X))) (fun _ => rfl) (zT_next_ok l  I J X hq3) (Nat.ble_eq_true_of_le (by omega)) rfl ?_
      refine iq_G_go (k := 2) (σ' := (40, [some (.ref 61), some (.int x1), some (.int x2)], [.int x1, .ref 61], (iq_sh l, q3, J, X))) (fun _ => rfl) ?_
      obtain ⟨q4, hq4, h⟩ := iq_bnd h
      refine iq_G_call (σ' := (43, [some (.ref 61), some (.int x1), some (.int x2)], [.int q4.1], (iq_sh l, q4.2, J, X))) (fun _ => rfl) (hR 101 x1 q3 J X q4 hq4) (Nat.ble_eq_true_of_le (Nat.le_refl _)) rfl ?_
      rcases iq_ite h with ⟨hc_, h⟩ | ⟨hc_, h⟩
      · refine iq_G_pos (c := ¬ q4.1 = 0) (σ1 := (48, [some (.ref 61), some (.int x1), some (.int x2)], [], (iq_sh l, q4.2, J, X))) (fun _ => rfl) hc_ ?_
        refine iq_G_go (k := 4) (σ' := (57, [some (.ref 61), some (.int x1), some (.int x2)], [.int (-10 : Int32), .ref 42], (iq_sh l, q4.2, J, X))) (fun _ => rfl) ?_
        obtain ⟨q5, hq5, h⟩ := iq_bnd h
        refine iq_G_call (σ' := (60, [some (.ref 61), some (.int x1), some (.int x2)], [], (iq_sh l, q5, J, X))) (fun _ => rfl) (zE_step_ok l (-10 : Int32) q4.2 J X hq5) (Nat.ble_eq_true_of_le (by omega)) rfl ?_
        refine iq_G_go (k := 2) (σ' := (12, [some (.ref 61), some (.int x1), some (.int (x2 + (1 : Int32)))], [], (iq_sh l, q5, J, X))) (fun _ => rfl) ?_
        cases h
        exact iq_G_fg (L := [some (.ref 61), some (.int x1), some (.int (x2 + (1 : Int32)))]) (And.intro rfl (And.intro rfl (And.intro rfl trivial))) (hc ((x2 + (1 : Int32)), q5) rfl)
      · refine iq_G_neg (c := ¬ q4.1 = 0) (σ1 := (46, [some (.ref 61), some (.int x1), some (.int x2)], [], (iq_sh l, q4.2, J, X))) (fun _ => rfl) hc_ ?_
        refine iq_G_go (k := 1) (σ' := (47, [some (.ref 61), some (.int x1), some (.int x2)], [.int (0 : Int32)], (iq_sh l, q4.2, J, X))) (fun _ => rfl) ?_
        cases h
        obtain rfl := (hx _ rfl).2 _ rfl
        exact iq_G_ret (fun _ => rfl)
set_option maxRecDepth 100000 in
theorem zR_readAnd_l12_ok {D : Nat} (l : Nat) (R : Nat → Int32 → iq_I → Option (Int32 × iq_I))  (hR : ∀ (t : Nat) (x : Int32) (I : iq_I) (J : iq_J) (X : iq_X) (q : Int32 × iq_I), R t x I = some q → iq_Cc D t [.ref 61, .int x] (iq_sh l, I, J, X) (.inl (some (.int q.1)), (iq_sh l, q.2, J, X))) (hD : 6 ≤ D) (x1 : Int32) (J : iq_J) (X : iq_X) {n : Nat} {v : Int32 × iq_I} {w : (iq_I) ⊕ (Int32 × iq_I)} (h : zR_readAnd_l12 R x1 n v = some w) (r : iq_R × iq_M) (hq : (∀ a, w = .inl a → iq_Gg D 100 (66, [none, none, none], [], (iq_sh l, a, J, X)) r) ∧ (∀ b, w = .inr b → r = (.inl (some (.int b.1)), (iq_sh l, b.2, J, X)))) : iq_Gg D 100 (12, [some (.ref 61), some (.int x1), some (.int v.1)], [], (iq_sh l, v.2, J, X)) r :=
  iq_lp_ok (σ := fun v => (12, [some (.ref 61), some (.int x1), some (.int v.1)], [], (iq_sh l, v.2, J, X))) (Q := fun w r => (∀ a, w = .inl a → iq_Gg D 100 (66, [none, none, none], [], (iq_sh l, a, J, X)) r) ∧ (∀ b, w = .inr b → r = (.inl (some (.int b.1)), (iq_sh l, b.2, J, X)))) (fun v q hv r h1 h2 => zR_readAnd_l12_bok l R hR hD x1 J X v.1 v.2 hv r h1 h2) h r hq
set_option maxRecDepth 100000 in
theorem zR_readAnd_ok {D : Nat} (l : Nat) (R : Nat → Int32 → iq_I → Option (Int32 × iq_I))  (hR : ∀ (t : Nat) (x : Int32) (I : iq_I) (J : iq_J) (X : iq_X) (q : Int32 × iq_I), R t x I = some q → iq_Cc D t [.ref 61, .int x] (iq_sh l, I, J, X) (.inl (some (.int q.1)), (iq_sh l, q.2, J, X))) (hD : 6 ≤ D) (x1 : Int32) (I : iq_I) (J : iq_J) (X : iq_X) {q : Int32 × iq_I} (h : zR_readAnd R x1 I = some q) : iq_Cc (D + 1) 100 [.ref 61, .int x1] (iq_sh l, I, J, X) (.inl (some (.int q.1)), (iq_sh l, q.2, J, X)) := by
  refine iq_Cc_of (L := [some (.ref 61), some (.int x1), none]) rfl rfl ?_
  unfold zR_readAnd at h
  refine iq_G_go (k := 2) (σ' := (2, [some (.ref 61), some (.int x1), none], [.int x1, .ref 61], (iq_sh l, I, J, X))) (fun _ => rfl) ?_
  obtain ⟨q1, hq1, h⟩ := iq_bnd h
  refine iq_G_call (σ' := (5, [some (.ref 61), some (.int x1), none], [.int q1.1], (iq_sh l, q1.2, J, X))) (fun _ => rfl) (hR 101 x1 I J X q1 hq1) (Nat.ble_eq_true_of_le (Nat.le_refl _)) rfl ?_
  rcases iq_ite h with ⟨hc_, h⟩ | ⟨hc_, h⟩
  · refine iq_G_pos (c := ¬ q1.1 = 0) (σ1 := (10, [some (.ref 61), some (.int x1), none], [], (iq_sh l, q1.2, J, X))) (fun _ => rfl) hc_ ?_
    refine iq_G_go (k := 2) (σ' := (12, [some (.ref 61), some (.int x1), some (.int (0 : Int32))], [], (iq_sh l, q1.2, J, X))) (fun _ => rfl) ?_
    obtain ⟨w6, hw6, h⟩ := iq_bnd h
    refine iq_G_fg (L := [some (.ref 61), some (.int x1), some (.int (0 : Int32))]) (And.intro rfl (And.intro rfl (And.intro rfl trivial))) ?_
    refine zR_readAnd_l12_ok l R hR hD x1 J X hw6 _ ⟨fun a7 ha => ?_, fun b8 hb => ?_⟩
    · subst ha
      replace h := ir_smL h
      show iq_Gg D 100 (66, [none, none, none], [], (iq_sh l, a7, J, X)) _
      refine iq_G_go (k := 1) (σ' := (67, [none, none, none], [.int (1 : Int32)], (iq_sh l, a7, J, X))) (fun _ => rfl) ?_
      cases h
      exact iq_G_ret (fun _ => rfl)
    · subst hb
      replace h := ir_smR h
      cases h
      rfl
  · refine iq_G_neg (c := ¬ q1.1 = 0) (σ1 := (8, [some (.ref 61), some (.int x1), none], [], (iq_sh l, q1.2, J, X))) (fun _ => rfl) hc_ ?_
    refine iq_G_go (k := 1) (σ' := (9, [some (.ref 61), some (.int x1), none], [.int (0 : Int32)], (iq_sh l, q1.2, J, X))) (fun _ => rfl) ?_
    cases h
    exact iq_G_ret (fun _ => rfl)
set_option maxRecDepth 100000 in
theorem zS_J0_coder_7d493_5017_ok (l : Nat)   (I : iq_I) (J : iq_J) (X : iq_X) {q : Int32} (h : zS_J0_coder_7d493_5017 I = some q) : iq_Cc 1 316 [.ref 5017] (iq_sh l, I, J, X) (.inl (some (.int q)), (iq_sh l, I, J, X)) := by
  refine iq_Cc_of (L := [some (.ref 5017)]) rfl rfl ?_
  unfold zS_J0_coder_7d493_5017 at h
  refine iq_G_go (k := 1) (σ' := (3, [some (.ref 5017)], [.int (1 : Int32)], (iq_sh l, I, J, X))) (fun _ => rfl) ?_
  refine iq_G_go (k := 1) (σ' := (6, [some (.ref 5017)], [], (iq_sh l, I, J, X))) (fun _ => rfl) ?_
  refine iq_G_go (k := 3) (σ' := (14, [some (.ref 5017)], [.int (0 : Int32)], (iq_sh l, I, J, X))) (fun _ => rfl) ?_
  cases h
  exact iq_G_ret (fun _ => rfl)
set_option maxRecDepth 100000 in
theorem zS_J0_length_8abf5_5017_ok (l : Nat)   (I : iq_I) (J : iq_J) (X : iq_X) {q : Int32} (h : zS_J0_length_8abf5_5017 I = some q) : iq_Cc 2 312 [.ref 5017] (iq_sh l, I, J, X) (.inl (some (.int q)), (iq_sh l, I, J, X)) := by
  refine iq_Cc_of (L := [some (.ref 5017)]) rfl rfl ?_
  unfold zS_J0_length_8abf5_5017 at h
  refine iq_G_go (k := 4) (σ' := (6, [some (.ref 5017)], [.ref 5017, .int (2 : Int32)], (iq_sh l, I, J, X))) (fun _ => rfl) ?_
  obtain ⟨q1, hq1, h⟩ := iq_bnd h
  refine iq_G_call (σ' := (9, [some (.ref 5017)], [.int q1, .int (2 : Int32)], (iq_sh l, I, J, X))) (fun _ => rfl) (zS_J0_coder_7d493_5017_ok l  I J X hq1) rfl rfl ?_
  refine iq_G_go (k := 1) (σ' := (10, [some (.ref 5017)], [.int ((2 : Int32) >>> (q1 &&& 31))], (iq_sh l, I, J, X))) (fun _ => rfl) ?_
  cases h
  exact iq_G_ret (fun _ => rfl)
set_option maxRecDepth 100000 in
theorem zS_J0_isLatin1_aae02_5017_ok (l : Nat)   (I : iq_I) (J : iq_J) (X : iq_X) {q : Int32} (h : zS_J0_isLatin1_aae02_5017 I = some q) : iq_Cc 1 317 [.ref 5017] (iq_sh l, I, J, X) (.inl (some (.int q)), (iq_sh l, I, J, X)) := by
  refine iq_Cc_of (L := [some (.ref 5017)]) rfl rfl ?_
  unfold zS_J0_isLatin1_aae02_5017 at h
  refine iq_G_go (k := 1) (σ' := (3, [some (.ref 5017)], [.int (1 : Int32)], (iq_sh l, I, J, X))) (fun _ => rfl) ?_
  refine iq_G_go (k := 1) (σ' := (6, [some (.ref 5017)], [], (iq_sh l, I, J, X))) (fun _ => rfl) ?_
  refine iq_G_go (k := 2) (σ' := (10, [some (.ref 5017)], [.int (0 : Int32)], (iq_sh l, I, J, X))) (fun _ => rfl) ?_
  refine iq_G_go (k := 1) (σ' := (13, [some (.ref 5017)], [], (iq_sh l, I, J, X))) (fun _ => rfl) ?_
  refine iq_G_go (k := 2) (σ' := (18, [some (.ref 5017)], [.int (1 : Int32)], (iq_sh l, I, J, X))) (fun _ => rfl) ?_
  cases h
  exact iq_G_ret (fun _ => rfl)
set_option maxRecDepth 100000 in
theorem zS_J1_charAt_3b067_6017_ok (l : Nat)  (x1 : Int32) (I : iq_I) (J : iq_J) (X : iq_X) {q : Int32} (h : zS_J1_charAt_3b067_6017 x1 I = some q) : iq_Cc 3 319 [.ref 6017, .int x1] (iq_sh l, I, J, X) (.inl (some (.int q)), (iq_sh l, I, J, X)) := by
  refine iq_Cc_of (L := [some (.ref 6017), some (.int x1)]) rfl rfl ?_
  unfold zS_J1_charAt_3b067_6017 at h
  refine iq_G_go (k := 3) (σ' := (3, [some (.ref 6017), some (.int x1)], [.int (2 : Int32), .int x1], (iq_sh l, I, J, X))) (fun _ => rfl) ?_
  obtain ⟨q1, hq1, h⟩ := iq_bnd h
  refine iq_G_call (σ' := (6, [some (.ref 6017), some (.int x1)], [], (iq_sh l, I, J, X))) (fun _ => rfl) (zS_J0_checkIndex_df160_ok l x1 (2 : Int32) I J X hq1) rfl rfl ?_
  refine iq_G_go (k := 2) (σ' := (8, [some (.ref 6017), some (.int x1)], [.int x1, .ref 6017], (iq_sh l, I, J, X))) (fun _ => rfl) ?_
  obtain ⟨hc_, h⟩ := iq_itn h
  refine iq_G_pos (c := iq_in x1 2) (σ1 := (9, [some (.ref 6017), some (.int x1)], [.int (ir_chr 17 (Int32.toNatClampNeg x1))], (iq_sh l, I, J, X))) (fun _ => rfl) hc_ ?_
  refine iq_G_go (k := 3) (σ' := (14, [some (.ref 6017), some (.int x1)], [.int ((Int32.toUInt32 ((ir_chr 17 (Int32.toNatClampNeg x1)) &&& (255 : Int32)) % 65536).toInt32)], (iq_sh l, I, J, X))) (fun _ => rfl) ?_
  obtain ⟨hc_, h⟩ := iq_itn h
  have h := Option.some.inj h
  subst h
  exact iq_G_rif (c := narrow .char (.int ((Int32.toUInt32 ((ir_chr 17 (Int32.toNatClampNeg x1)) &&& (255 : Int32)) % 65536).toInt32)) = .int ((Int32.toUInt32 ((ir_chr 17 (Int32.toNatClampNeg x1)) &&& (255 : Int32)) % 65536).toInt32)) (fun _ => rfl) hc_
set_option maxRecDepth 100000 in
theorem zS_J0_charAt_5068e_5017_ok (l : Nat)  (x1 : Int32) (I : iq_I) (J : iq_J) (X : iq_X) {q : Int32} (h : zS_J0_charAt_5068e_5017 x1 I = some q) : iq_Cc 4 313 [.ref 5017, .int x1] (iq_sh l, I, J, X) (.inl (some (.int q)), (iq_sh l, I, J, X)) := by
  refine iq_Cc_of (L := [some (.ref 5017), some (.int x1)]) rfl rfl ?_
  unfold zS_J0_charAt_5068e_5017 at h
  refine iq_G_go (k := 1) (σ' := (1, [some (.ref 5017), some (.int x1)], [.ref 5017], (iq_sh l, I, J, X))) (fun _ => rfl) ?_
  obtain ⟨q1, hq1, h⟩ := iq_bnd h
  refine iq_G_call (σ' := (4, [some (.ref 5017), some (.int x1)], [.int q1], (iq_sh l, I, J, X))) (fun _ => rfl) (zS_J0_isLatin1_aae02_5017_ok l  I J X hq1) rfl rfl ?_
  rcases iq_ite h with ⟨hc_, h⟩ | ⟨hc_, h⟩
  · refine iq_G_pos (c := q1 = 0) (σ1 := (16, [some (.ref 5017), some (.int x1)], [], (iq_sh l, I, J, X))) (fun _ => rfl) hc_ ?_
    cases h
  · refine iq_G_neg (c := q1 = 0) (σ1 := (7, [some (.ref 5017), some (.int x1)], [], (iq_sh l, I, J, X))) (fun _ => rfl) hc_ ?_
    refine iq_G_go (k := 3) (σ' := (12, [some (.ref 5017), some (.int x1)], [.int x1, .ref 6017], (iq_sh l, I, J, X))) (fun _ => rfl) ?_
    obtain ⟨q2, hq2, h⟩ := iq_bnd h
    refine iq_G_call (σ' := (15, [some (.ref 5017), some (.int x1)], [.int q2], (iq_sh l, I, J, X))) (fun _ => rfl) (zS_J1_charAt_3b067_6017_ok l x1 I J X hq2) rfl rfl ?_
    obtain ⟨hc_, h⟩ := iq_itn h
    have h := Option.some.inj h
    subst h
    exact iq_G_rif (c := narrow .char (.int q2) = .int q2) (fun _ => rfl) hc_
set_option maxRecDepth 100000 in
theorem zT_isWord_62_5017_l28_bok (l : Nat)   (I : iq_I) (J : iq_J) (X : iq_X) (x2 : Int32)  {q : (Int32) ⊕ ((Unit) ⊕ (Int32))} (h : zT_isWord_62_5017_l28_b I x2 = some q) (r : iq_R × iq_M) (hc : ∀ v, q = .inl v → iq_Gg 4 142 (28, [some (.ref 62), some (.ref 5017), some (.int v)], [], (iq_sh l, I, J, X)) r) (hx : ∀ w, q = .inr w → (∀ a, w = .inl a → iq_Gg 4 142 (63, [none, none, none], [], (iq_sh l, I, J, X)) r) ∧ (∀ b, w = .inr b → r = (.inl (some (.int b)), (iq_sh l, I, J, X)))) : iq_Gg 4 142 (28, [some (.ref 62), some (.ref 5017), some (.int x2)], [], (iq_sh l, I, J, X)) r := by
  unfold zT_isWord_62_5017_l28_b at h
  refine iq_G_go (k := 2) (σ' := (30, [some (.ref 62), some (.ref 5017), some (.int x2)], [.ref 5017, .int x2], (iq_sh l, I, J, X))) (fun _ => rfl) ?_
  obtain ⟨q2, hq2, h⟩ := iq_bnd h
  refine iq_G_call (σ' := (33, [some (.ref 62), some (.ref 5017), some (.int x2)], [.int q2, .int x2], (iq_sh l, I, J, X))) (fun _ => rfl) (zS_J0_length_8abf5_5017_ok l  I J X hq2) rfl rfl ?_
  rcases iq_ite h with ⟨hc_, h⟩ | ⟨hc_, h⟩
  · refine iq_G_pos (c := q2 ≤ x2) (σ1 := (63, [some (.ref 62), some (.ref 5017), some (.int x2)], [], (iq_sh l, I, J, X))) (fun _ => rfl) hc_ ?_
    cases h
    exact iq_G_fg (L := [none, none, none]) trivial ((hx (.inl ()) rfl).1 () rfl)
  · refine iq_G_neg (c := q2 ≤ x2) (σ1 := (36, [some (.ref 62), some (.ref 5017), some (.int x2)], [], (iq_sh l, I, J, X))) (fun _ => rfl) hc_ ?_
    refine iq_G_go (k := 6) (σ' := (46, [some (.ref 62), some (.ref 5017), some (.int x2)], [.int ((I 62 1) + x2), .ref 2], (iq_sh l, I, J, X))) (fun _ => rfl) ?_
    obtain ⟨hc_, h⟩ := iq_itn h
    refine iq_G_pos (c := iq_in ((I 62 1) + x2) 700) (σ1 := (47, [some (.ref 62), some (.ref 5017), some (.int x2)], [.int (I 2 (Int32.toNatClampNeg ((I 62 1) + x2)))], (iq_sh l, I, J, X))) (fun _ => rfl) hc_ ?_
    refine iq_G_go (k := 2) (σ' := (49, [some (.ref 62), some (.ref 5017), some (.int x2)], [.int x2, .ref 5017, .int (I 2 (Int32.toNatClampNeg ((I 62 1) + x2)))], (iq_sh l, I, J, X))) (fun _ => rfl) ?_
    obtain ⟨q3, hq3, h⟩ := iq_bnd h
    refine iq_G_call (σ' := (52, [some (.ref 62), some (.ref 5017), some (.int x2)], [.int q3, .int (I 2 (Int32.toNatClampNeg ((I 62 1) + x2)))], (iq_sh l, I, J, X))) (fun _ => rfl) (zS_J0_charAt_5068e_5017_ok l x2 I J X hq3) rfl rfl ?_
    rcases iq_ite h with ⟨hc_, h⟩ | ⟨hc_, h⟩
    · refine iq_G_pos (c := (I 2 (Int32.toNatClampNeg ((I 62 1) + x2))) = q3) (σ1 := (57, [some (.ref 62), some (.ref 5017), some (.int x2)], [], (iq_sh l, I, J, X))) (fun _ => rfl) hc_ ?_
      refine iq_G_go (k := 2) (σ' := (28, [some (.ref 62), some (.ref 5017), some (.int (x2 + (1 : Int32)))], [], (iq_sh l, I, J, X))) (fun _ => rfl) ?_
      cases h
      exact iq_G_fg (L := [some (.ref 62), some (.ref 5017), some (.int (x2 + (1 : Int32)))]) (And.intro rfl (And.intro rfl (And.intro rfl trivial))) (hc (x2 + (1 : Int32)) rfl)
    · refine iq_G_neg (c := (I 2 (Int32.toNatClampNeg ((I 62 1) + x2))) = q3) (σ1 := (55, [some (.ref 62), some (.ref 5017), some (.int x2)], [], (iq_sh l, I, J, X))) (fun _ => rfl) hc_ ?_
      refine iq_G_go (k := 1) (σ' := (56, [some (.ref 62), some (.ref 5017), some (.int x2)], [.int (0 : Int32)], (iq_sh l, I, J, X))) (fun _ => rfl) ?_
      cases h
      obtain rfl := (hx _ rfl).2 _ rfl
      exact iq_G_ret (fun _ => rfl)
set_option maxRecDepth 100000 in
theorem zT_isWord_62_5017_l28_ok (l : Nat)   (I : iq_I) (J : iq_J) (X : iq_X) {n : Nat} {v : Int32} {w : (Unit) ⊕ (Int32)} (h : zT_isWord_62_5017_l28 I n v = some w) (r : iq_R × iq_M) (hq : (∀ a, w = .inl a → iq_Gg 4 142 (63, [none, none, none], [], (iq_sh l, I, J, X)) r) ∧ (∀ b, w = .inr b → r = (.inl (some (.int b)), (iq_sh l, I, J, X)))) : iq_Gg 4 142 (28, [some (.ref 62), some (.ref 5017), some (.int v)], [], (iq_sh l, I, J, X)) r :=
  iq_lp_ok (σ := fun v => (28, [some (.ref 62), some (.ref 5017), some (.int v)], [], (iq_sh l, I, J, X))) (Q := fun w r => (∀ a, w = .inl a → iq_Gg 4 142 (63, [none, none, none], [], (iq_sh l, I, J, X)) r) ∧ (∀ b, w = .inr b → r = (.inl (some (.int b)), (iq_sh l, I, J, X)))) (fun v q hv r h1 h2 => zT_isWord_62_5017_l28_bok l I J X v hv r h1 h2) h r hq
set_option maxRecDepth 100000 in
theorem zT_isWord_62_5017_ok (l : Nat)   (I : iq_I) (J : iq_J) (X : iq_X) {q : Int32} (h : zT_isWord_62_5017 I = some q) : iq_Cc 5 142 [.ref 62, .ref 5017] (iq_sh l, I, J, X) (.inl (some (.int q)), (iq_sh l, I, J, X)) := by
  refine iq_Cc_of (L := [some (.ref 62), some (.ref 5017), none]) rfl rfl ?_
  unfold zT_isWord_62_5017 at h
  refine iq_G_go (k := 3) (σ' := (5, [some (.ref 62), some (.ref 5017), none], [.int (1 : Int32), .int (I 62 0)], (iq_sh l, I, J, X))) (fun _ => rfl) ?_
  rcases iq_ite h with ⟨hc_, h⟩ | ⟨hc_, h⟩
  · refine iq_G_pos (c := ¬ (I 62 0) = (1 : Int32)) (σ1 := (24, [some (.ref 62), some (.ref 5017), none], [], (iq_sh l, I, J, X))) (fun _ => rfl) hc_ ?_
    refine iq_G_go (k := 1) (σ' := (25, [some (.ref 62), some (.ref 5017), none], [.int (0 : Int32)], (iq_sh l, I, J, X))) (fun _ => rfl) ?_
    cases h
    exact iq_G_ret (fun _ => rfl)
  · refine iq_G_neg (c := ¬ (I 62 0) = (1 : Int32)) (σ1 := (8, [some (.ref 62), some (.ref 5017), none], [], (iq_sh l, I, J, X))) (fun _ => rfl) hc_ ?_
    refine iq_G_go (k := 6) (σ' := (18, [some (.ref 62), some (.ref 5017), none], [.ref 5017, .int ((I 62 4) - (I 62 1))], (iq_sh l, I, J, X))) (fun _ => rfl) ?_
    obtain ⟨q1, hq1, h⟩ := iq_bnd h
    refine iq_G_call (σ' := (21, [some (.ref 62), some (.ref 5017), none], [.int q1, .int ((I 62 4) - (I 62 1))], (iq_sh l, I, J, X))) (fun _ => rfl) (zS_J0_length_8abf5_5017_ok l  I J X hq1) rfl rfl ?_
    rcases iq_ite h with ⟨hc_, h⟩ | ⟨hc_, h⟩
    · have st_ : ∀ (z_0 : Int32) (r_ : iq_R × iq_M), z_0 = q1 → iq_Gg 4 142 (26, [some (.ref 62), some (.ref 5017), none], [], (iq_sh l, I, J, X)) r_ → iq_Gg 4 142 (21, [some (.ref 62), some (.ref 5017), none], [.int q1, .int z_0], (iq_sh l, I, J, X)) r_ := fun z_0 r_ hc_ hg_ => iq_G_pos (c := z_0 = q1) (σ1 := (26, [some (.ref 62), some (.ref 5017), none], [], (iq_sh l, I, J, X))) (fun _ => rfl) hc_ hg_
      refine st_ ((I 62 4) - (I 62 1)) _ hc_ ?_
      clear st_
      refine iq_G_go (k := 2) (σ' := (28, [some (.ref 62), some (.ref 5017), some (.int (0 : Int32))], [], (iq_sh l, I, J, X))) (fun _ => rfl) ?_
      obtain ⟨w4, hw4, h⟩ := iq_bnd h
      refine iq_G_fg (L := [some (.ref 62), some (.ref 5017), some (.int (0 : Int32))]) (And.intro rfl (And.intro rfl (And.intro rfl trivial))) ?_
      refine zT_isWord_62_5017_l28_ok l I J X hw4 _ ⟨fun a5 ha => ?_, fun b6 hb => ?_⟩
      · subst ha
        replace h := ir_smL h
        show iq_Gg 4 142 (63, [none, none, none], [], (iq_sh l, I, J, X)) _
        refine iq_G_go (k := 1) (σ' := (64, [none, none, none], [.int (1 : Int32)], (iq_sh l, I, J, X))) (fun _ => rfl) ?_
        cases h
        exact iq_G_ret (fun _ => rfl)
      · subst hb
        replace h := ir_smR h
        cases h
        rfl
    · have st_ : ∀ (z_0 : Int32) (r_ : iq_R × iq_M), ¬ (z_0 = q1) → iq_Gg 4 142 (24, [some (.ref 62), some (.ref 5017), none], [], (iq_sh l, I, J, X)) r_ → iq_Gg 4 142 (21, [some (.ref 62), some (.ref 5017), none], [.int q1, .int z_0], (iq_sh l, I, J, X)) r_ := fun z_0 r_ hc_ hg_ => iq_G_neg (c := z_0 = q1) (σ1 := (24, [some (.ref 62), some (.ref 5017), none], [], (iq_sh l, I, J, X))) (fun _ => rfl) hc_ hg_
      refine st_ ((I 62 4) - (I 62 1)) _ hc_ ?_
      clear st_
      refine iq_G_go (k := 1) (σ' := (25, [some (.ref 62), some (.ref 5017), none], [.int (0 : Int32)], (iq_sh l, I, J, X))) (fun _ => rfl) ?_
      cases h
      exact iq_G_ret (fun _ => rfl)
set_option maxRecDepth 100000 in
theorem zR_readExpr_l35_bok {D : Nat} (l : Nat) (R : Nat → Int32 → iq_I → Option (Int32 × iq_I))  (hR : ∀ (t : Nat) (x : Int32) (I : iq_I) (J : iq_J) (X : iq_X) (q : Int32 × iq_I), R t x I = some q → iq_Cc D t [.ref 61, .int x] (iq_sh l, I, J, X) (.inl (some (.int q.1)), (iq_sh l, q.2, J, X))) (hD : 6 ≤ D) (x1 : Int32) (J : iq_J) (X : iq_X) (x2 : Int32) (I : iq_I) {q : (Int32 × iq_I) ⊕ ((iq_I) ⊕ (Int32 × iq_I))} (h : zR_readExpr_l35_b R x1 x2 I = some q) (r : iq_R × iq_M) (hc : ∀ v, q = .inl v → iq_Gg D 98 (35, [some (.ref 61), some (.int x1), some (.int v.1)], [], (iq_sh l, v.2, J, X)) r) (hx : ∀ w, q = .inr w → (∀ a, w = .inl a → iq_Gg D 98 (89, [none, none, none], [], (iq_sh l, a, J, X)) r) ∧ (∀ b, w = .inr b → r = (.inl (some (.int b.1)), (iq_sh l, b.2, J, X)))) : iq_Gg D 98 (35, [some (.ref 61), some (.int x1), some (.int x2)], [], (iq_sh l, I, J, X)) r := by
  unfold zR_readExpr_l35_b at h
  refine iq_G_go (k := 2) (σ' := (39, [some (.ref 61), some (.int x1), some (.int x2)], [.int (700 : Int32), .int x2], (iq_sh l, I, J, X))) (fun _ => rfl) ?_
  rcases iq_ite h with ⟨hc_, h⟩ | ⟨hc_, h⟩
  · refine iq_G_pos (c := (700 : Int32) ≤ x2) (σ1 := (89, [some (.ref 61), some (.int x1), some (.int x2)], [], (iq_sh l, I, J, X))) (fun _ => rfl) hc_ ?_
    cases h
    exact iq_G_fg (L := [none, none, none]) trivial ((hx (.inl I) rfl).1 I rfl)
  · refine iq_G_neg (c := (700 : Int32) ≤ x2) (σ1 := (42, [some (.ref 61), some (.int x1), some (.int x2)], [], (iq_sh l, I, J, X))) (fun _ => rfl) hc_ ?_
    refine iq_G_go (k := 3) (σ' := (48, [some (.ref 61), some (.int x1), some (.int x2)], [.ref 5017, .ref 62], (iq_sh l, I, J, X))) (fun _ => rfl) ?_
    obtain ⟨q2, hq2, h⟩ := iq_bnd h
    refine iq_G_call (σ' := (51, [some (.ref 61), some (.int x1), some (.int x2)], [.int q2], (iq_sh l, I, J, X))) (fun _ => rfl) (zT_isWord_62_5017_ok l  I J X hq2) (Nat.ble_eq_true_of_le (by omega)) rfl ?_
    rcases iq_ite h with ⟨hc_, h⟩ | ⟨hc_, h⟩
    · refine iq_G_pos (c := q2 = 0) (σ1 := (89, [some (.ref 61), some (.int x1), some (.int x2)], [], (iq_sh l, I, J, X))) (fun _ => rfl) hc_ ?_
      cases h
      exact iq_G_fg (L := [none, none, none]) trivial ((hx (.inl I) rfl).1 I rfl)
    · refine iq_G_neg (c := q2 = 0) (σ1 := (54, [some (.ref 61), some (.int x1), some (.int x2)], [], (iq_sh l, I, J, X))) (fun _ => rfl) hc_ ?_
      refine iq_G_go (k := 2) (σ' := (58, [some (.ref 61), some (.int x1), some (.int x2)], [.ref 62], (iq_sh l, I, J, X))) (fun _ => rfl) ?_
      obtain ⟨q3, hq3, h⟩ := iq_bnd h
      refine iq_G_call (σ' := (61, [some (.ref 61), some (.int x1), some (.int x2)], [], (iq_sh l, q3, J, X))) (fun _ => rfl) (zT_next_ok l  I J X hq3) (Nat.ble_eq_true_of_le (by omega)) rfl ?_
      refine iq_G_go (k := 2) (σ' := (63, [some (.ref 61), some (.int x1), some (.int x2)], [.int x1, .ref 61], (iq_sh l, q3, J, X))) (fun _ => rfl) ?_
      obtain ⟨q4, hq4, h⟩ := iq_bnd h
      refine iq_G_call (σ' := (66, [some (.ref 61), some (.int x1), some (.int x2)], [.int q4.1], (iq_sh l, q4.2, J, X))) (fun _ => rfl) (hR 100 x1 q3 J X q4 hq4) (Nat.ble_eq_true_of_le (Nat.le_refl _)) rfl ?_
      rcases iq_ite h with ⟨hc_, h⟩ | ⟨hc_, h⟩
      · refine iq_G_pos (c := ¬ q4.1 = 0) (σ1 := (71, [some (.ref 61), some (.int x1), some (.int x2)], [], (iq_sh l, q4.2, J, X))) (fun _ => rfl) hc_ ?_
        refine iq_G_go (k := 4) (σ' := (80, [some (.ref 61), some (.int x1), some (.int x2)], [.int (-9 : Int32), .ref 42], (iq_sh l, q4.2, J, X))) (fun _ => rfl) ?_
        obtain ⟨q5, hq5, h⟩ := iq_bnd h
        refine iq_G_call (σ' := (83, [some (.ref 61), some (.int x1), some (.int x2)], [], (iq_sh l, q5, J, X))) (fun _ => rfl) (zE_step_ok l (-9 : Int32) q4.2 J X hq5) (Nat.ble_eq_true_of_le (by omega)) rfl ?_
        refine iq_G_go (k := 2) (σ' := (35, [some (.ref 61), some (.int x1), some (.int (x2 + (1 : Int32)))], [], (iq_sh l, q5, J, X))) (fun _ => rfl) ?_
        cases h
        exact iq_G_fg (L := [some (.ref 61), some (.int x1), some (.int (x2 + (1 : Int32)))]) (And.intro rfl (And.intro rfl (And.intro rfl trivial))) (hc ((x2 + (1 : Int32)), q5) rfl)
      · refine iq_G_neg (c := ¬ q4.1 = 0) (σ1 := (69, [some (.ref 61), some (.int x1), some (.int x2)], [], (iq_sh l, q4.2, J, X))) (fun _ => rfl) hc_ ?_
        refine iq_G_go (k := 1) (σ' := (70, [some (.ref 61), some (.int x1), some (.int x2)], [.int (0 : Int32)], (iq_sh l, q4.2, J, X))) (fun _ => rfl) ?_
        cases h
        obtain rfl := (hx _ rfl).2 _ rfl
        exact iq_G_ret (fun _ => rfl)
set_option maxRecDepth 100000 in
theorem zR_readExpr_l35_ok {D : Nat} (l : Nat) (R : Nat → Int32 → iq_I → Option (Int32 × iq_I))  (hR : ∀ (t : Nat) (x : Int32) (I : iq_I) (J : iq_J) (X : iq_X) (q : Int32 × iq_I), R t x I = some q → iq_Cc D t [.ref 61, .int x] (iq_sh l, I, J, X) (.inl (some (.int q.1)), (iq_sh l, q.2, J, X))) (hD : 6 ≤ D) (x1 : Int32) (J : iq_J) (X : iq_X) {n : Nat} {v : Int32 × iq_I} {w : (iq_I) ⊕ (Int32 × iq_I)} (h : zR_readExpr_l35 R x1 n v = some w) (r : iq_R × iq_M) (hq : (∀ a, w = .inl a → iq_Gg D 98 (89, [none, none, none], [], (iq_sh l, a, J, X)) r) ∧ (∀ b, w = .inr b → r = (.inl (some (.int b.1)), (iq_sh l, b.2, J, X)))) : iq_Gg D 98 (35, [some (.ref 61), some (.int x1), some (.int v.1)], [], (iq_sh l, v.2, J, X)) r :=
  iq_lp_ok (σ := fun v => (35, [some (.ref 61), some (.int x1), some (.int v.1)], [], (iq_sh l, v.2, J, X))) (Q := fun w r => (∀ a, w = .inl a → iq_Gg D 98 (89, [none, none, none], [], (iq_sh l, a, J, X)) r) ∧ (∀ b, w = .inr b → r = (.inl (some (.int b.1)), (iq_sh l, b.2, J, X)))) (fun v q hv r h1 h2 => zR_readExpr_l35_bok l R hR hD x1 J X v.1 v.2 hv r h1 h2) h r hq
set_option maxRecDepth 100000 in
theorem zR_readExpr_19_ok {D : Nat} (l : Nat) (R : Nat → Int32 → iq_I → Option (Int32 × iq_I))  (hR : ∀ (t : Nat) (x : Int32) (I : iq_I) (J : iq_J) (X : iq_X) (q : Int32 × iq_I), R t x I = some q → iq_Cc D t [.ref 61, .int x] (iq_sh l, I, J, X) (.inl (some (.int q.1)), (iq_sh l, q.2, J, X))) (hD : 6 ≤ D) (s1 : Int32) (I : iq_I) (J : iq_J) (X : iq_X)  {q : Int32 × iq_I} (h : zR_readExpr_19 R s1 I = some q)  : iq_Gg D 98 (19, [none, none, none], [.int s1, .ref 61], (iq_sh l, I, J, X)) (.inl (some (.int q.1)), (iq_sh l, q.2, J, X)) := by
  unfold zR_readExpr_19 at h
  obtain ⟨q10, hq10, h⟩ := iq_bnd h
  refine iq_G_call (σ' := (22, [none, none, none], [.int q10.1], (iq_sh l, q10.2, J, X))) (fun _ => rfl) (zR_refuse_ok l s1 I J X hq10) (Nat.ble_eq_true_of_le (by omega)) rfl ?_
  obtain ⟨hc_, h⟩ := iq_itn h
  have h := Option.some.inj h
  subst h
  exact iq_G_rif (c := q10.1 = 0 ∨ q10.1 = 1) (fun _ => rfl) hc_
set_option maxRecDepth 100000 in
theorem zR_readExpr_ok {D : Nat} (l : Nat) (R : Nat → Int32 → iq_I → Option (Int32 × iq_I))  (hR : ∀ (t : Nat) (x : Int32) (I : iq_I) (J : iq_J) (X : iq_X) (q : Int32 × iq_I), R t x I = some q → iq_Cc D t [.ref 61, .int x] (iq_sh l, I, J, X) (.inl (some (.int q.1)), (iq_sh l, q.2, J, X))) (hD : 6 ≤ D) (x1 : Int32) (I : iq_I) (J : iq_J) (X : iq_X) {q : Int32 × iq_I} (h : zR_readExpr R x1 I = some q) : iq_Cc (D + 1) 98 [.ref 61, .int x1] (iq_sh l, I, J, X) (.inl (some (.int q.1)), (iq_sh l, q.2, J, X)) := by
  refine iq_Cc_of (L := [some (.ref 61), some (.int x1), none]) rfl rfl ?_
  unfold zR_readExpr at h
  refine iq_G_go (k := 2) (σ' := (3, [some (.ref 61), some (.int x1), none], [.int (6 : Int32), .int x1], (iq_sh l, I, J, X))) (fun _ => rfl) ?_
  rcases iq_ite h with ⟨hc_, h⟩ | ⟨hc_, h⟩
  · refine iq_G_pos (c := x1 < (6 : Int32)) (σ1 := (23, [some (.ref 61), some (.int x1), none], [], (iq_sh l, I, J, X))) (fun _ => rfl) hc_ ?_
    refine iq_G_go (k := 2) (σ' := (25, [some (.ref 61), some (.int x1), none], [.int x1, .ref 61], (iq_sh l, I, J, X))) (fun _ => rfl) ?_
    obtain ⟨q1, hq1, h⟩ := iq_bnd h
    refine iq_G_call (σ' := (28, [some (.ref 61), some (.int x1), none], [.int q1.1], (iq_sh l, q1.2, J, X))) (fun _ => rfl) (hR 100 x1 I J X q1 hq1) (Nat.ble_eq_true_of_le (Nat.le_refl _)) rfl ?_
    rcases iq_ite h with ⟨hc_, h⟩ | ⟨hc_, h⟩
    · refine iq_G_pos (c := ¬ q1.1 = 0) (σ1 := (33, [some (.ref 61), some (.int x1), none], [], (iq_sh l, q1.2, J, X))) (fun _ => rfl) hc_ ?_
      refine iq_G_go (k := 2) (σ' := (35, [some (.ref 61), some (.int x1), some (.int (0 : Int32))], [], (iq_sh l, q1.2, J, X))) (fun _ => rfl) ?_
      obtain ⟨w6, hw6, h⟩ := iq_bnd h
      refine iq_G_fg (L := [some (.ref 61), some (.int x1), some (.int (0 : Int32))]) (And.intro rfl (And.intro rfl (And.intro rfl trivial))) ?_
      refine zR_readExpr_l35_ok l R hR hD x1 J X hw6 _ ⟨fun a7 ha => ?_, fun b8 hb => ?_⟩
      · subst ha
        replace h := ir_smL h
        show iq_Gg D 98 (89, [none, none, none], [], (iq_sh l, a7, J, X)) _
        refine iq_G_go (k := 1) (σ' := (90, [none, none, none], [.int (1 : Int32)], (iq_sh l, a7, J, X))) (fun _ => rfl) ?_
        cases h
        exact iq_G_ret (fun _ => rfl)
      · subst hb
        replace h := ir_smR h
        cases h
        rfl
    · refine iq_G_neg (c := ¬ q1.1 = 0) (σ1 := (31, [some (.ref 61), some (.int x1), none], [], (iq_sh l, q1.2, J, X))) (fun _ => rfl) hc_ ?_
      refine iq_G_go (k := 1) (σ' := (32, [some (.ref 61), some (.int x1), none], [.int (0 : Int32)], (iq_sh l, q1.2, J, X))) (fun _ => rfl) ?_
      cases h
      exact iq_G_ret (fun _ => rfl)
  · refine iq_G_neg (c := x1 < (6 : Int32)) (σ1 := (6, [some (.ref 61), some (.int x1), none], [], (iq_sh l, I, J, X))) (fun _ => rfl) hc_ ?_
    refine iq_G_go (k := 2) (σ' := (8, [some (.ref 61), some (.int x1), none], [.ref 61, .ref 61], (iq_sh l, I, J, X))) (fun _ => rfl) ?_
    obtain ⟨q9, hq9, h⟩ := iq_bnd h
    refine iq_G_call (σ' := (11, [some (.ref 61), some (.int x1), none], [.int q9, .ref 61], (iq_sh l, I, J, X))) (fun _ => rfl) (zR_canBeginExpr_ok l  I J X hq9) (Nat.ble_eq_true_of_le (by omega)) rfl ?_
    rcases iq_ite h with ⟨hc_, h⟩ | ⟨hc_, h⟩
    · refine iq_G_pos (c := q9 = 0) (σ1 := (18, [some (.ref 61), some (.int x1), none], [.ref 61], (iq_sh l, I, J, X))) (fun _ => rfl) hc_ ?_
      refine iq_G_go (k := 1) (σ' := (19, [some (.ref 61), some (.int x1), none], [.int (1 : Int32), .ref 61], (iq_sh l, I, J, X))) (fun _ => rfl) ?_
      exact iq_G_fg (L := [none, none, none]) trivial (zR_readExpr_19_ok l R hR hD (1 : Int32) I J X  h )
    · refine iq_G_neg (c := q9 = 0) (σ1 := (14, [some (.ref 61), some (.int x1), none], [.ref 61], (iq_sh l, I, J, X))) (fun _ => rfl) hc_ ?_
      refine iq_G_go (k := 2) (σ' := (19, [some (.ref 61), some (.int x1), none], [.int (2 : Int32), .ref 61], (iq_sh l, I, J, X))) (fun _ => rfl) ?_
      exact iq_G_fg (L := [none, none, none]) trivial (zR_readExpr_19_ok l R hR hD (2 : Int32) I J X  h )
set_option maxRecDepth 100000 in
theorem zR_rec_okD (l : Nat) : ∀ (d t : Nat) (x : Int32) (I : iq_I) (J : iq_J) (X : iq_X) (q : Int32 × iq_I), zR_rec d t x I = some q → iq_Cc (6 + d) t [.ref 61, .int x] (iq_sh l, I, J, X) (.inl (some (.int q.1)), (iq_sh l, q.2, J, X))
  | 0, t, x, I, J, X, q, h => by cases h
  | d + 1, t, x, I, J, X, q, h => by
    unfold zR_rec at h
    rcases iq_ite h with ⟨e, h⟩ | ⟨_, h⟩
    · subst e; exact zR_readPart_ok l (zR_rec d) (zR_rec_okD l d) (Nat.le_add_right _ _) x I J X h
    rcases iq_ite h with ⟨e, h⟩ | ⟨_, h⟩
    · subst e; exact zR_readProduct_ok l (zR_rec d) (zR_rec_okD l d) (Nat.le_add_right _ _) x I J X h
    rcases iq_ite h with ⟨e, h⟩ | ⟨_, h⟩
    · subst e; exact zR_readSum_ok l (zR_rec d) (zR_rec_okD l d) (Nat.le_add_right _ _) x I J X h
    rcases iq_ite h with ⟨e, h⟩ | ⟨_, h⟩
    · subst e; exact zR_readTest_ok l (zR_rec d) (zR_rec_okD l d) (Nat.le_add_right _ _) x I J X h
    rcases iq_ite h with ⟨e, h⟩ | ⟨_, h⟩
    · subst e; exact zR_readNot_ok l (zR_rec d) (zR_rec_okD l d) (Nat.le_add_right _ _) x I J X h
    rcases iq_ite h with ⟨e, h⟩ | ⟨_, h⟩
    · subst e; exact zR_readAnd_ok l (zR_rec d) (zR_rec_okD l d) (Nat.le_add_right _ _) x I J X h
    rcases iq_ite h with ⟨e, h⟩ | ⟨_, h⟩
    · subst e; exact zR_readExpr_ok l (zR_rec d) (zR_rec_okD l d) (Nat.le_add_right _ _) x I J X h
    cases h
set_option maxRecDepth 100000 in
theorem zR_rec_ok (l t : Nat) (x : Int32) (I : iq_I) (J : iq_J) (X : iq_X) (q : Int32 × iq_I) (h : zR_rec ir_RD t x I = some q) : iq_Cc 66 t [.ref 61, .int x] (iq_sh l, I, J, X) (.inl (some (.int q.1)), (iq_sh l, q.2, J, X)) := zR_rec_okD l ir_RD t x I J X q h

set_option maxRecDepth 100000 in
theorem zE_end_ok (l : Nat)  (x1 : Int32) (I : iq_I) (J : iq_J) (X : iq_X) {q : iq_I} (h : zE_end x1 I = some q) : iq_Cc 1 131 [.ref 42, .int x1] (iq_sh l, I, J, X) (.inl none, (iq_sh l, q, J, X)) := by
  refine iq_Cc_of (L := [some (.ref 42), some (.int x1)]) rfl rfl ?_
  unfold zE_end at h
  refine iq_G_go (k := 1) (σ' := (1, [some (.ref 42), some (.int x1)], [.int x1], (iq_sh l, I, J, X))) (fun _ => rfl) ?_
  rcases iq_ite h with ⟨hc_, h⟩ | ⟨hc_, h⟩
  · refine iq_G_pos (c := x1 < 0) (σ1 := (23, [some (.ref 42), some (.int x1)], [], (iq_sh l, I, J, X))) (fun _ => rfl) hc_ ?_
    cases h
    exact iq_G_ret (fun _ => rfl)
  · refine iq_G_neg (c := x1 < 0) (σ1 := (4, [some (.ref 42), some (.int x1)], [], (iq_sh l, I, J, X))) (fun _ => rfl) hc_ ?_
    refine iq_G_go (k := 4) (σ' := (10, [some (.ref 42), some (.int x1)], [.int (5 : Int32), .int x1], (iq_sh l, I, J, X))) (fun _ => rfl) ?_
    rcases iq_ite h with ⟨hc_, h⟩ | ⟨hc_, h⟩
    · refine iq_G_pos (c := (5 : Int32) ≤ x1) (σ1 := (23, [some (.ref 42), some (.int x1)], [], (iq_sh l, I, J, X))) (fun _ => rfl) hc_ ?_
      cases h
      exact iq_G_ret (fun _ => rfl)
    · refine iq_G_neg (c := (5 : Int32) ≤ x1) (σ1 := (13, [some (.ref 42), some (.int x1)], [], (iq_sh l, I, J, X))) (fun _ => rfl) hc_ ?_
      refine iq_G_go (k := 5) (σ' := (22, [some (.ref 42), some (.int x1)], [.int (I 42 2), .int x1, .ref 45], (iq_sh l, I, J, X))) (fun _ => rfl) ?_
      obtain ⟨hc_, h⟩ := iq_itn h
      refine iq_G_pos (c := iq_in x1 5) (σ1 := (23, [some (.ref 42), some (.int x1)], [], (iq_sh l, (iq_upI I 45 (Int32.toNatClampNeg x1) (I 42 2)), J, X))) (fun _ => rfl) hc_ ?_
      obtain ⟨I1, eI1, h⟩ := ir_letG h
      rw [← eI1]
      clear eI1
      cases h
      exact iq_G_ret (fun _ => rfl)
set_option maxRecDepth 100000 in
theorem zR_readRule_ok (l : Nat)  (x1 : Int32) (I : iq_I) (J : iq_J) (X : iq_X) {q : Int32 × iq_I} (h : zR_readRule x1 I = some q) : iq_Cc 67 97 [.ref 61, .int x1] (iq_sh l, I, J, X) (.inl (some (.int q.1)), (iq_sh l, q.2, J, X)) := by
  refine iq_Cc_of (L := [some (.ref 61), some (.int x1)]) rfl rfl ?_
  unfold zR_readRule at h
  refine iq_G_go (k := 2) (σ' := (4, [some (.ref 61), some (.int x1)], [.ref 62], (iq_sh l, I, J, X))) (fun _ => rfl) ?_
  obtain ⟨q1, hq1, h⟩ := iq_bnd h
  refine iq_G_call (σ' := (7, [some (.ref 61), some (.int x1)], [], (iq_sh l, q1, J, X))) (fun _ => rfl) (zT_next_ok l  I J X hq1) rfl rfl ?_
  refine iq_G_go (k := 4) (σ' := (15, [some (.ref 61), some (.int x1)], [.int x1, .ref 42], (iq_sh l, q1, J, X))) (fun _ => rfl) ?_
  obtain ⟨q2, hq2, h⟩ := iq_bnd h
  refine iq_G_call (σ' := (18, [some (.ref 61), some (.int x1)], [], (iq_sh l, q2, J, X))) (fun _ => rfl) (zE_begin_ok l x1 q1 J X hq2) rfl rfl ?_
  refine iq_G_go (k := 2) (σ' := (20, [some (.ref 61), some (.int x1)], [.int (0 : Int32), .ref 61], (iq_sh l, q2, J, X))) (fun _ => rfl) ?_
  obtain ⟨q3, hq3, h⟩ := iq_bnd h
  refine iq_G_call (σ' := (23, [some (.ref 61), some (.int x1)], [.int q3.1], (iq_sh l, q3.2, J, X))) (fun _ => rfl) (zR_rec_ok l 98 (0 : Int32) q2 J X q3 hq3) rfl rfl ?_
  rcases iq_ite h with ⟨hc_, h⟩ | ⟨hc_, h⟩
  · refine iq_G_pos (c := ¬ q3.1 = 0) (σ1 := (28, [some (.ref 61), some (.int x1)], [], (iq_sh l, q3.2, J, X))) (fun _ => rfl) hc_ ?_
    refine iq_G_go (k := 4) (σ' := (36, [some (.ref 61), some (.int x1)], [.int x1, .ref 42], (iq_sh l, q3.2, J, X))) (fun _ => rfl) ?_
    obtain ⟨q4, hq4, h⟩ := iq_bnd h
    refine iq_G_call (σ' := (39, [some (.ref 61), some (.int x1)], [], (iq_sh l, q4, J, X))) (fun _ => rfl) (zE_end_ok l x1 q3.2 J X hq4) rfl rfl ?_
    refine iq_G_go (k := 1) (σ' := (40, [some (.ref 61), some (.int x1)], [.ref 61], (iq_sh l, q4, J, X))) (fun _ => rfl) ?_
    obtain ⟨q5, hq5, h⟩ := iq_bnd h
    refine iq_G_call (σ' := (43, [some (.ref 61), some (.int x1)], [.int q5.1], (iq_sh l, q5.2, J, X))) (fun _ => rfl) (zR_passLineEnd_ok l  q4 J X hq5) rfl rfl ?_
    obtain ⟨hc_, h⟩ := iq_itn h
    have h := Option.some.inj h
    subst h
    exact iq_G_rif (c := q5.1 = 0 ∨ q5.1 = 1) (fun _ => rfl) hc_
  · refine iq_G_neg (c := ¬ q3.1 = 0) (σ1 := (26, [some (.ref 61), some (.int x1)], [], (iq_sh l, q3.2, J, X))) (fun _ => rfl) hc_ ?_
    refine iq_G_go (k := 1) (σ' := (27, [some (.ref 61), some (.int x1)], [.int (0 : Int32)], (iq_sh l, q3.2, J, X))) (fun _ => rfl) ?_
    cases h
    exact iq_G_ret (fun _ => rfl)
set_option maxRecDepth 100000 in
theorem zR_readHabit_ok (l : Nat)   (I : iq_I) (J : iq_J) (X : iq_X) {q : Int32 × iq_I} (h : zR_readHabit I = some q) : iq_Cc 68 95 [.ref 61] (iq_sh l, I, J, X) (.inl (some (.int q.1)), (iq_sh l, q.2, J, X)) := by
  refine iq_Cc_of (L := [some (.ref 61), none]) rfl rfl ?_
  unfold zR_readHabit at h
  refine iq_G_go (k := 7) (σ' := (13, [some (.ref 61), some (.int (I 42 0))], [.int (4 : Int32), .int (I 42 0)], (iq_sh l, I, J, X))) (fun _ => rfl) ?_
  rcases iq_ite h with ⟨hc_, h⟩ | ⟨hc_, h⟩
  · refine iq_G_pos (c := (I 42 0) < (4 : Int32)) (σ1 := (22, [some (.ref 61), some (.int (I 42 0))], [], (iq_sh l, I, J, X))) (fun _ => rfl) hc_ ?_
    refine iq_G_go (k := 6) (σ' := (32, [some (.ref 61), some (.int (I 42 0))], [.int ((I 42 0) + (1 : Int32)), .ref 42], (iq_sh l, I, J, X))) (fun _ => rfl) ?_
    refine iq_G_go (k := 1) (σ' := (35, [some (.ref 61), some (.int (I 42 0))], [], (iq_sh l, (iq_upI I 42 0 ((I 42 0) + (1 : Int32))), J, X))) (fun _ => rfl) ?_
    obtain ⟨I1, eI1, h⟩ := ir_letG h
    rw [← eI1]
    clear eI1
    refine iq_G_go (k := 2) (σ' := (37, [some (.ref 61), some (.int (I 42 0))], [.int (I 42 0), .ref 61], (iq_sh l, I1, J, X))) (fun _ => rfl) ?_
    obtain ⟨q2, hq2, h⟩ := iq_bnd h
    refine iq_G_call (σ' := (40, [some (.ref 61), some (.int (I 42 0))], [.int q2.1], (iq_sh l, q2.2, J, X))) (fun _ => rfl) (zR_readRule_ok l (I 42 0) I1 J X hq2) rfl rfl ?_
    obtain ⟨hc_, h⟩ := iq_itn h
    have h := Option.some.inj h
    subst h
    exact iq_G_rif (c := q2.1 = 0 ∨ q2.1 = 1) (fun _ => rfl) hc_
  · refine iq_G_neg (c := (I 42 0) < (4 : Int32)) (σ1 := (16, [some (.ref 61), some (.int (I 42 0))], [], (iq_sh l, I, J, X))) (fun _ => rfl) hc_ ?_
    refine iq_G_go (k := 2) (σ' := (18, [some (.ref 61), some (.int (I 42 0))], [.int (2 : Int32), .ref 61], (iq_sh l, I, J, X))) (fun _ => rfl) ?_
    obtain ⟨q3, hq3, h⟩ := iq_bnd h
    refine iq_G_call (σ' := (21, [some (.ref 61), some (.int (I 42 0))], [.int q3.1], (iq_sh l, q3.2, J, X))) (fun _ => rfl) (zR_refuse_ok l (2 : Int32) I J X hq3) rfl rfl ?_
    obtain ⟨hc_, h⟩ := iq_itn h
    have h := Option.some.inj h
    subst h
    exact iq_G_rif (c := q3.1 = 0 ∨ q3.1 = 1) (fun _ => rfl) hc_
set_option maxRecDepth 100000 in
theorem zS_J0_coder_7d493_5018_ok (l : Nat)   (I : iq_I) (J : iq_J) (X : iq_X) {q : Int32} (h : zS_J0_coder_7d493_5018 I = some q) : iq_Cc 1 316 [.ref 5018] (iq_sh l, I, J, X) (.inl (some (.int q)), (iq_sh l, I, J, X)) := by
  refine iq_Cc_of (L := [some (.ref 5018)]) rfl rfl ?_
  unfold zS_J0_coder_7d493_5018 at h
  refine iq_G_go (k := 1) (σ' := (3, [some (.ref 5018)], [.int (1 : Int32)], (iq_sh l, I, J, X))) (fun _ => rfl) ?_
  refine iq_G_go (k := 1) (σ' := (6, [some (.ref 5018)], [], (iq_sh l, I, J, X))) (fun _ => rfl) ?_
  refine iq_G_go (k := 3) (σ' := (14, [some (.ref 5018)], [.int (0 : Int32)], (iq_sh l, I, J, X))) (fun _ => rfl) ?_
  cases h
  exact iq_G_ret (fun _ => rfl)
set_option maxRecDepth 100000 in
theorem zS_J0_length_8abf5_5018_ok (l : Nat)   (I : iq_I) (J : iq_J) (X : iq_X) {q : Int32} (h : zS_J0_length_8abf5_5018 I = some q) : iq_Cc 2 312 [.ref 5018] (iq_sh l, I, J, X) (.inl (some (.int q)), (iq_sh l, I, J, X)) := by
  refine iq_Cc_of (L := [some (.ref 5018)]) rfl rfl ?_
  unfold zS_J0_length_8abf5_5018 at h
  refine iq_G_go (k := 4) (σ' := (6, [some (.ref 5018)], [.ref 5018, .int (3 : Int32)], (iq_sh l, I, J, X))) (fun _ => rfl) ?_
  obtain ⟨q1, hq1, h⟩ := iq_bnd h
  refine iq_G_call (σ' := (9, [some (.ref 5018)], [.int q1, .int (3 : Int32)], (iq_sh l, I, J, X))) (fun _ => rfl) (zS_J0_coder_7d493_5018_ok l  I J X hq1) rfl rfl ?_
  refine iq_G_go (k := 1) (σ' := (10, [some (.ref 5018)], [.int ((3 : Int32) >>> (q1 &&& 31))], (iq_sh l, I, J, X))) (fun _ => rfl) ?_
  cases h
  exact iq_G_ret (fun _ => rfl)
set_option maxRecDepth 100000 in
theorem zS_J0_isLatin1_aae02_5018_ok (l : Nat)   (I : iq_I) (J : iq_J) (X : iq_X) {q : Int32} (h : zS_J0_isLatin1_aae02_5018 I = some q) : iq_Cc 1 317 [.ref 5018] (iq_sh l, I, J, X) (.inl (some (.int q)), (iq_sh l, I, J, X)) := by
  refine iq_Cc_of (L := [some (.ref 5018)]) rfl rfl ?_
  unfold zS_J0_isLatin1_aae02_5018 at h
  refine iq_G_go (k := 1) (σ' := (3, [some (.ref 5018)], [.int (1 : Int32)], (iq_sh l, I, J, X))) (fun _ => rfl) ?_
  refine iq_G_go (k := 1) (σ' := (6, [some (.ref 5018)], [], (iq_sh l, I, J, X))) (fun _ => rfl) ?_
  refine iq_G_go (k := 2) (σ' := (10, [some (.ref 5018)], [.int (0 : Int32)], (iq_sh l, I, J, X))) (fun _ => rfl) ?_
  refine iq_G_go (k := 1) (σ' := (13, [some (.ref 5018)], [], (iq_sh l, I, J, X))) (fun _ => rfl) ?_
  refine iq_G_go (k := 2) (σ' := (18, [some (.ref 5018)], [.int (1 : Int32)], (iq_sh l, I, J, X))) (fun _ => rfl) ?_
  cases h
  exact iq_G_ret (fun _ => rfl)
set_option maxRecDepth 100000 in
theorem zS_J1_charAt_3b067_6018_ok (l : Nat)  (x1 : Int32) (I : iq_I) (J : iq_J) (X : iq_X) {q : Int32} (h : zS_J1_charAt_3b067_6018 x1 I = some q) : iq_Cc 3 319 [.ref 6018, .int x1] (iq_sh l, I, J, X) (.inl (some (.int q)), (iq_sh l, I, J, X)) := by
  refine iq_Cc_of (L := [some (.ref 6018), some (.int x1)]) rfl rfl ?_
  unfold zS_J1_charAt_3b067_6018 at h
  refine iq_G_go (k := 3) (σ' := (3, [some (.ref 6018), some (.int x1)], [.int (3 : Int32), .int x1], (iq_sh l, I, J, X))) (fun _ => rfl) ?_
  obtain ⟨q1, hq1, h⟩ := iq_bnd h
  refine iq_G_call (σ' := (6, [some (.ref 6018), some (.int x1)], [], (iq_sh l, I, J, X))) (fun _ => rfl) (zS_J0_checkIndex_df160_ok l x1 (3 : Int32) I J X hq1) rfl rfl ?_
  refine iq_G_go (k := 2) (σ' := (8, [some (.ref 6018), some (.int x1)], [.int x1, .ref 6018], (iq_sh l, I, J, X))) (fun _ => rfl) ?_
  obtain ⟨hc_, h⟩ := iq_itn h
  refine iq_G_pos (c := iq_in x1 3) (σ1 := (9, [some (.ref 6018), some (.int x1)], [.int (ir_chr 18 (Int32.toNatClampNeg x1))], (iq_sh l, I, J, X))) (fun _ => rfl) hc_ ?_
  refine iq_G_go (k := 3) (σ' := (14, [some (.ref 6018), some (.int x1)], [.int ((Int32.toUInt32 ((ir_chr 18 (Int32.toNatClampNeg x1)) &&& (255 : Int32)) % 65536).toInt32)], (iq_sh l, I, J, X))) (fun _ => rfl) ?_
  obtain ⟨hc_, h⟩ := iq_itn h
  have h := Option.some.inj h
  subst h
  exact iq_G_rif (c := narrow .char (.int ((Int32.toUInt32 ((ir_chr 18 (Int32.toNatClampNeg x1)) &&& (255 : Int32)) % 65536).toInt32)) = .int ((Int32.toUInt32 ((ir_chr 18 (Int32.toNatClampNeg x1)) &&& (255 : Int32)) % 65536).toInt32)) (fun _ => rfl) hc_
set_option maxRecDepth 100000 in
theorem zS_J0_charAt_5068e_5018_ok (l : Nat)  (x1 : Int32) (I : iq_I) (J : iq_J) (X : iq_X) {q : Int32} (h : zS_J0_charAt_5068e_5018 x1 I = some q) : iq_Cc 4 313 [.ref 5018, .int x1] (iq_sh l, I, J, X) (.inl (some (.int q)), (iq_sh l, I, J, X)) := by
  refine iq_Cc_of (L := [some (.ref 5018), some (.int x1)]) rfl rfl ?_
  unfold zS_J0_charAt_5068e_5018 at h
  refine iq_G_go (k := 1) (σ' := (1, [some (.ref 5018), some (.int x1)], [.ref 5018], (iq_sh l, I, J, X))) (fun _ => rfl) ?_
  obtain ⟨q1, hq1, h⟩ := iq_bnd h
  refine iq_G_call (σ' := (4, [some (.ref 5018), some (.int x1)], [.int q1], (iq_sh l, I, J, X))) (fun _ => rfl) (zS_J0_isLatin1_aae02_5018_ok l  I J X hq1) rfl rfl ?_
  rcases iq_ite h with ⟨hc_, h⟩ | ⟨hc_, h⟩
  · refine iq_G_pos (c := q1 = 0) (σ1 := (16, [some (.ref 5018), some (.int x1)], [], (iq_sh l, I, J, X))) (fun _ => rfl) hc_ ?_
    cases h
  · refine iq_G_neg (c := q1 = 0) (σ1 := (7, [some (.ref 5018), some (.int x1)], [], (iq_sh l, I, J, X))) (fun _ => rfl) hc_ ?_
    refine iq_G_go (k := 3) (σ' := (12, [some (.ref 5018), some (.int x1)], [.int x1, .ref 6018], (iq_sh l, I, J, X))) (fun _ => rfl) ?_
    obtain ⟨q2, hq2, h⟩ := iq_bnd h
    refine iq_G_call (σ' := (15, [some (.ref 5018), some (.int x1)], [.int q2], (iq_sh l, I, J, X))) (fun _ => rfl) (zS_J1_charAt_3b067_6018_ok l x1 I J X hq2) rfl rfl ?_
    obtain ⟨hc_, h⟩ := iq_itn h
    have h := Option.some.inj h
    subst h
    exact iq_G_rif (c := narrow .char (.int q2) = .int q2) (fun _ => rfl) hc_
set_option maxRecDepth 100000 in
theorem zT_isWord_62_5018_l28_bok (l : Nat)   (I : iq_I) (J : iq_J) (X : iq_X) (x2 : Int32)  {q : (Int32) ⊕ ((Unit) ⊕ (Int32))} (h : zT_isWord_62_5018_l28_b I x2 = some q) (r : iq_R × iq_M) (hc : ∀ v, q = .inl v → iq_Gg 4 142 (28, [some (.ref 62), some (.ref 5018), some (.int v)], [], (iq_sh l, I, J, X)) r) (hx : ∀ w, q = .inr w → (∀ a, w = .inl a → iq_Gg 4 142 (63, [none, none, none], [], (iq_sh l, I, J, X)) r) ∧ (∀ b, w = .inr b → r = (.inl (some (.int b)), (iq_sh l, I, J, X)))) : iq_Gg 4 142 (28, [some (.ref 62), some (.ref 5018), some (.int x2)], [], (iq_sh l, I, J, X)) r := by
  unfold zT_isWord_62_5018_l28_b at h
  refine iq_G_go (k := 2) (σ' := (30, [some (.ref 62), some (.ref 5018), some (.int x2)], [.ref 5018, .int x2], (iq_sh l, I, J, X))) (fun _ => rfl) ?_
  obtain ⟨q2, hq2, h⟩ := iq_bnd h
  refine iq_G_call (σ' := (33, [some (.ref 62), some (.ref 5018), some (.int x2)], [.int q2, .int x2], (iq_sh l, I, J, X))) (fun _ => rfl) (zS_J0_length_8abf5_5018_ok l  I J X hq2) rfl rfl ?_
  rcases iq_ite h with ⟨hc_, h⟩ | ⟨hc_, h⟩
  · refine iq_G_pos (c := q2 ≤ x2) (σ1 := (63, [some (.ref 62), some (.ref 5018), some (.int x2)], [], (iq_sh l, I, J, X))) (fun _ => rfl) hc_ ?_
    cases h
    exact iq_G_fg (L := [none, none, none]) trivial ((hx (.inl ()) rfl).1 () rfl)
  · refine iq_G_neg (c := q2 ≤ x2) (σ1 := (36, [some (.ref 62), some (.ref 5018), some (.int x2)], [], (iq_sh l, I, J, X))) (fun _ => rfl) hc_ ?_
    refine iq_G_go (k := 6) (σ' := (46, [some (.ref 62), some (.ref 5018), some (.int x2)], [.int ((I 62 1) + x2), .ref 2], (iq_sh l, I, J, X))) (fun _ => rfl) ?_
    obtain ⟨hc_, h⟩ := iq_itn h
    refine iq_G_pos (c := iq_in ((I 62 1) + x2) 700) (σ1 := (47, [some (.ref 62), some (.ref 5018), some (.int x2)], [.int (I 2 (Int32.toNatClampNeg ((I 62 1) + x2)))], (iq_sh l, I, J, X))) (fun _ => rfl) hc_ ?_
    refine iq_G_go (k := 2) (σ' := (49, [some (.ref 62), some (.ref 5018), some (.int x2)], [.int x2, .ref 5018, .int (I 2 (Int32.toNatClampNeg ((I 62 1) + x2)))], (iq_sh l, I, J, X))) (fun _ => rfl) ?_
    obtain ⟨q3, hq3, h⟩ := iq_bnd h
    refine iq_G_call (σ' := (52, [some (.ref 62), some (.ref 5018), some (.int x2)], [.int q3, .int (I 2 (Int32.toNatClampNeg ((I 62 1) + x2)))], (iq_sh l, I, J, X))) (fun _ => rfl) (zS_J0_charAt_5068e_5018_ok l x2 I J X hq3) rfl rfl ?_
    rcases iq_ite h with ⟨hc_, h⟩ | ⟨hc_, h⟩
    · refine iq_G_pos (c := (I 2 (Int32.toNatClampNeg ((I 62 1) + x2))) = q3) (σ1 := (57, [some (.ref 62), some (.ref 5018), some (.int x2)], [], (iq_sh l, I, J, X))) (fun _ => rfl) hc_ ?_
      refine iq_G_go (k := 2) (σ' := (28, [some (.ref 62), some (.ref 5018), some (.int (x2 + (1 : Int32)))], [], (iq_sh l, I, J, X))) (fun _ => rfl) ?_
      cases h
      exact iq_G_fg (L := [some (.ref 62), some (.ref 5018), some (.int (x2 + (1 : Int32)))]) (And.intro rfl (And.intro rfl (And.intro rfl trivial))) (hc (x2 + (1 : Int32)) rfl)
    · refine iq_G_neg (c := (I 2 (Int32.toNatClampNeg ((I 62 1) + x2))) = q3) (σ1 := (55, [some (.ref 62), some (.ref 5018), some (.int x2)], [], (iq_sh l, I, J, X))) (fun _ => rfl) hc_ ?_
      refine iq_G_go (k := 1) (σ' := (56, [some (.ref 62), some (.ref 5018), some (.int x2)], [.int (0 : Int32)], (iq_sh l, I, J, X))) (fun _ => rfl) ?_
      cases h
      obtain rfl := (hx _ rfl).2 _ rfl
      exact iq_G_ret (fun _ => rfl)
set_option maxRecDepth 100000 in
theorem zT_isWord_62_5018_l28_ok (l : Nat)   (I : iq_I) (J : iq_J) (X : iq_X) {n : Nat} {v : Int32} {w : (Unit) ⊕ (Int32)} (h : zT_isWord_62_5018_l28 I n v = some w) (r : iq_R × iq_M) (hq : (∀ a, w = .inl a → iq_Gg 4 142 (63, [none, none, none], [], (iq_sh l, I, J, X)) r) ∧ (∀ b, w = .inr b → r = (.inl (some (.int b)), (iq_sh l, I, J, X)))) : iq_Gg 4 142 (28, [some (.ref 62), some (.ref 5018), some (.int v)], [], (iq_sh l, I, J, X)) r :=
  iq_lp_ok (σ := fun v => (28, [some (.ref 62), some (.ref 5018), some (.int v)], [], (iq_sh l, I, J, X))) (Q := fun w r => (∀ a, w = .inl a → iq_Gg 4 142 (63, [none, none, none], [], (iq_sh l, I, J, X)) r) ∧ (∀ b, w = .inr b → r = (.inl (some (.int b)), (iq_sh l, I, J, X)))) (fun v q hv r h1 h2 => zT_isWord_62_5018_l28_bok l I J X v hv r h1 h2) h r hq
set_option maxRecDepth 100000 in
theorem zT_isWord_62_5018_ok (l : Nat)   (I : iq_I) (J : iq_J) (X : iq_X) {q : Int32} (h : zT_isWord_62_5018 I = some q) : iq_Cc 5 142 [.ref 62, .ref 5018] (iq_sh l, I, J, X) (.inl (some (.int q)), (iq_sh l, I, J, X)) := by
  refine iq_Cc_of (L := [some (.ref 62), some (.ref 5018), none]) rfl rfl ?_
  unfold zT_isWord_62_5018 at h
  refine iq_G_go (k := 3) (σ' := (5, [some (.ref 62), some (.ref 5018), none], [.int (1 : Int32), .int (I 62 0)], (iq_sh l, I, J, X))) (fun _ => rfl) ?_
  rcases iq_ite h with ⟨hc_, h⟩ | ⟨hc_, h⟩
  · refine iq_G_pos (c := ¬ (I 62 0) = (1 : Int32)) (σ1 := (24, [some (.ref 62), some (.ref 5018), none], [], (iq_sh l, I, J, X))) (fun _ => rfl) hc_ ?_
    refine iq_G_go (k := 1) (σ' := (25, [some (.ref 62), some (.ref 5018), none], [.int (0 : Int32)], (iq_sh l, I, J, X))) (fun _ => rfl) ?_
    cases h
    exact iq_G_ret (fun _ => rfl)
  · refine iq_G_neg (c := ¬ (I 62 0) = (1 : Int32)) (σ1 := (8, [some (.ref 62), some (.ref 5018), none], [], (iq_sh l, I, J, X))) (fun _ => rfl) hc_ ?_
    refine iq_G_go (k := 6) (σ' := (18, [some (.ref 62), some (.ref 5018), none], [.ref 5018, .int ((I 62 4) - (I 62 1))], (iq_sh l, I, J, X))) (fun _ => rfl) ?_
    obtain ⟨q1, hq1, h⟩ := iq_bnd h
    refine iq_G_call (σ' := (21, [some (.ref 62), some (.ref 5018), none], [.int q1, .int ((I 62 4) - (I 62 1))], (iq_sh l, I, J, X))) (fun _ => rfl) (zS_J0_length_8abf5_5018_ok l  I J X hq1) rfl rfl ?_
    rcases iq_ite h with ⟨hc_, h⟩ | ⟨hc_, h⟩
    · have st_ : ∀ (z_0 : Int32) (r_ : iq_R × iq_M), z_0 = q1 → iq_Gg 4 142 (26, [some (.ref 62), some (.ref 5018), none], [], (iq_sh l, I, J, X)) r_ → iq_Gg 4 142 (21, [some (.ref 62), some (.ref 5018), none], [.int q1, .int z_0], (iq_sh l, I, J, X)) r_ := fun z_0 r_ hc_ hg_ => iq_G_pos (c := z_0 = q1) (σ1 := (26, [some (.ref 62), some (.ref 5018), none], [], (iq_sh l, I, J, X))) (fun _ => rfl) hc_ hg_
      refine st_ ((I 62 4) - (I 62 1)) _ hc_ ?_
      clear st_
      refine iq_G_go (k := 2) (σ' := (28, [some (.ref 62), some (.ref 5018), some (.int (0 : Int32))], [], (iq_sh l, I, J, X))) (fun _ => rfl) ?_
      obtain ⟨w4, hw4, h⟩ := iq_bnd h
      refine iq_G_fg (L := [some (.ref 62), some (.ref 5018), some (.int (0 : Int32))]) (And.intro rfl (And.intro rfl (And.intro rfl trivial))) ?_
      refine zT_isWord_62_5018_l28_ok l I J X hw4 _ ⟨fun a5 ha => ?_, fun b6 hb => ?_⟩
      · subst ha
        replace h := ir_smL h
        show iq_Gg 4 142 (63, [none, none, none], [], (iq_sh l, I, J, X)) _
        refine iq_G_go (k := 1) (σ' := (64, [none, none, none], [.int (1 : Int32)], (iq_sh l, I, J, X))) (fun _ => rfl) ?_
        cases h
        exact iq_G_ret (fun _ => rfl)
      · subst hb
        replace h := ir_smR h
        cases h
        rfl
    · have st_ : ∀ (z_0 : Int32) (r_ : iq_R × iq_M), ¬ (z_0 = q1) → iq_Gg 4 142 (24, [some (.ref 62), some (.ref 5018), none], [], (iq_sh l, I, J, X)) r_ → iq_Gg 4 142 (21, [some (.ref 62), some (.ref 5018), none], [.int q1, .int z_0], (iq_sh l, I, J, X)) r_ := fun z_0 r_ hc_ hg_ => iq_G_neg (c := z_0 = q1) (σ1 := (24, [some (.ref 62), some (.ref 5018), none], [], (iq_sh l, I, J, X))) (fun _ => rfl) hc_ hg_
      refine st_ ((I 62 4) - (I 62 1)) _ hc_ ?_
      clear st_
      refine iq_G_go (k := 1) (σ' := (25, [some (.ref 62), some (.ref 5018), none], [.int (0 : Int32)], (iq_sh l, I, J, X))) (fun _ => rfl) ?_
      cases h
      exact iq_G_ret (fun _ => rfl)
set_option maxRecDepth 100000 in
theorem zR_readLaw_ok (l : Nat)   (I : iq_I) (J : iq_J) (X : iq_X) {q : Int32 × iq_I} (h : zR_readLaw I = some q) : iq_Cc 68 96 [.ref 61] (iq_sh l, I, J, X) (.inl (some (.int q.1)), (iq_sh l, q.2, J, X)) := by
  refine iq_Cc_of (L := [some (.ref 61)]) rfl rfl ?_
  unfold zR_readLaw at h
  refine iq_G_go (k := 4) (σ' := (10, [some (.ref 61)], [.int (I 42 1)], (iq_sh l, I, J, X))) (fun _ => rfl) ?_
  rcases iq_ite h with ⟨hc_, h⟩ | ⟨hc_, h⟩
  · refine iq_G_pos (c := (I 42 1) = 0) (σ1 := (19, [some (.ref 61)], [], (iq_sh l, I, J, X))) (fun _ => rfl) hc_ ?_
    refine iq_G_go (k := 4) (σ' := (27, [some (.ref 61)], [.int (1 : Int32), .ref 42], (iq_sh l, I, J, X))) (fun _ => rfl) ?_
    refine iq_G_go (k := 1) (σ' := (30, [some (.ref 61)], [], (iq_sh l, (iq_upI I 42 1 (1 : Int32)), J, X))) (fun _ => rfl) ?_
    obtain ⟨I1, eI1, h⟩ := ir_letG h
    rw [← eI1]
    clear eI1
    refine iq_G_go (k := 2) (σ' := (32, [some (.ref 61)], [.int (4 : Int32), .ref 61], (iq_sh l, I1, J, X))) (fun _ => rfl) ?_
    obtain ⟨q2, hq2, h⟩ := iq_bnd h
    refine iq_G_call (σ' := (35, [some (.ref 61)], [.int q2.1], (iq_sh l, q2.2, J, X))) (fun _ => rfl) (zR_readRule_ok l (4 : Int32) I1 J X hq2) rfl rfl ?_
    obtain ⟨hc_, h⟩ := iq_itn h
    have h := Option.some.inj h
    subst h
    exact iq_G_rif (c := q2.1 = 0 ∨ q2.1 = 1) (fun _ => rfl) hc_
  · refine iq_G_neg (c := (I 42 1) = 0) (σ1 := (13, [some (.ref 61)], [], (iq_sh l, I, J, X))) (fun _ => rfl) hc_ ?_
    refine iq_G_go (k := 2) (σ' := (15, [some (.ref 61)], [.int (5 : Int32), .ref 61], (iq_sh l, I, J, X))) (fun _ => rfl) ?_
    obtain ⟨q3, hq3, h⟩ := iq_bnd h
    refine iq_G_call (σ' := (18, [some (.ref 61)], [.int q3.1], (iq_sh l, q3.2, J, X))) (fun _ => rfl) (zR_refuse_ok l (5 : Int32) I J X hq3) rfl rfl ?_
    obtain ⟨hc_, h⟩ := iq_itn h
    have h := Option.some.inj h
    subst h
    exact iq_G_rif (c := q3.1 = 0 ∨ q3.1 = 1) (fun _ => rfl) hc_
set_option maxRecDepth 100000 in
theorem zR_readLine_ok (l : Nat)   (I : iq_I) (J : iq_J) (X : iq_X) {q : Int32 × iq_I} (h : zR_readLine I = some q) : iq_Cc 69 86 [.ref 61] (iq_sh l, I, J, X) (.inl (some (.int q.1)), (iq_sh l, q.2, J, X)) := by
  refine iq_Cc_of (L := [some (.ref 61)]) rfl rfl ?_
  unfold zR_readLine at h
  refine iq_G_go (k := 3) (σ' := (6, [some (.ref 61)], [.ref 5002, .ref 62], (iq_sh l, I, J, X))) (fun _ => rfl) ?_
  obtain ⟨q1, hq1, h⟩ := iq_bnd h
  refine iq_G_call (σ' := (9, [some (.ref 61)], [.int q1], (iq_sh l, I, J, X))) (fun _ => rfl) (zT_isWord_62_5002_ok l  I J X hq1) rfl rfl ?_
  rcases iq_ite h with ⟨hc_, h⟩ | ⟨hc_, h⟩
  · refine iq_G_pos (c := q1 = 0) (σ1 := (17, [some (.ref 61)], [], (iq_sh l, I, J, X))) (fun _ => rfl) hc_ ?_
    refine iq_G_go (k := 3) (σ' := (23, [some (.ref 61)], [.ref 5004, .ref 62], (iq_sh l, I, J, X))) (fun _ => rfl) ?_
    obtain ⟨q2, hq2, h⟩ := iq_bnd h
    refine iq_G_call (σ' := (26, [some (.ref 61)], [.int q2], (iq_sh l, I, J, X))) (fun _ => rfl) (zT_isWord_62_5004_ok l  I J X hq2) rfl rfl ?_
    rcases iq_ite h with ⟨hc_, h⟩ | ⟨hc_, h⟩
    · refine iq_G_pos (c := q2 = 0) (σ1 := (34, [some (.ref 61)], [], (iq_sh l, I, J, X))) (fun _ => rfl) hc_ ?_
      refine iq_G_go (k := 3) (σ' := (40, [some (.ref 61)], [.ref 5005, .ref 62], (iq_sh l, I, J, X))) (fun _ => rfl) ?_
      obtain ⟨q3, hq3, h⟩ := iq_bnd h
      refine iq_G_call (σ' := (43, [some (.ref 61)], [.int q3], (iq_sh l, I, J, X))) (fun _ => rfl) (zT_isWord_62_5005_ok l  I J X hq3) rfl rfl ?_
      rcases iq_ite h with ⟨hc_, h⟩ | ⟨hc_, h⟩
      · refine iq_G_pos (c := q3 = 0) (σ1 := (51, [some (.ref 61)], [], (iq_sh l, I, J, X))) (fun _ => rfl) hc_ ?_
        refine iq_G_go (k := 3) (σ' := (57, [some (.ref 61)], [.ref 5006, .ref 62], (iq_sh l, I, J, X))) (fun _ => rfl) ?_
        obtain ⟨q4, hq4, h⟩ := iq_bnd h
        refine iq_G_call (σ' := (60, [some (.ref 61)], [.int q4], (iq_sh l, I, J, X))) (fun _ => rfl) (zT_isWord_62_5006_ok l  I J X hq4) rfl rfl ?_
        rcases iq_ite h with ⟨hc_, h⟩ | ⟨hc_, h⟩
        · refine iq_G_pos (c := q4 = 0) (σ1 := (68, [some (.ref 61)], [], (iq_sh l, I, J, X))) (fun _ => rfl) hc_ ?_
          refine iq_G_go (k := 3) (σ' := (74, [some (.ref 61)], [.ref 5007, .ref 62], (iq_sh l, I, J, X))) (fun _ => rfl) ?_
          obtain ⟨q5, hq5, h⟩ := iq_bnd h
          refine iq_G_call (σ' := (77, [some (.ref 61)], [.int q5], (iq_sh l, I, J, X))) (fun _ => rfl) (zT_isWord_62_5007_ok l  I J X hq5) rfl rfl ?_
          rcases iq_ite h with ⟨hc_, h⟩ | ⟨hc_, h⟩
          · refine iq_G_pos (c := q5 = 0) (σ1 := (85, [some (.ref 61)], [], (iq_sh l, I, J, X))) (fun _ => rfl) hc_ ?_
            refine iq_G_go (k := 3) (σ' := (91, [some (.ref 61)], [.ref 5008, .ref 62], (iq_sh l, I, J, X))) (fun _ => rfl) ?_
            obtain ⟨q6, hq6, h⟩ := iq_bnd h
            refine iq_G_call (σ' := (94, [some (.ref 61)], [.int q6], (iq_sh l, I, J, X))) (fun _ => rfl) (zT_isWord_62_5008_ok l  I J X hq6) rfl rfl ?_
            rcases iq_ite h with ⟨hc_, h⟩ | ⟨hc_, h⟩
            · refine iq_G_pos (c := q6 = 0) (σ1 := (102, [some (.ref 61)], [], (iq_sh l, I, J, X))) (fun _ => rfl) hc_ ?_
              refine iq_G_go (k := 3) (σ' := (108, [some (.ref 61)], [.ref 5018, .ref 62], (iq_sh l, I, J, X))) (fun _ => rfl) ?_
              obtain ⟨q7, hq7, h⟩ := iq_bnd h
              refine iq_G_call (σ' := (111, [some (.ref 61)], [.int q7], (iq_sh l, I, J, X))) (fun _ => rfl) (zT_isWord_62_5018_ok l  I J X hq7) rfl rfl ?_
              rcases iq_ite h with ⟨hc_, h⟩ | ⟨hc_, h⟩
              · refine iq_G_pos (c := q7 = 0) (σ1 := (119, [some (.ref 61)], [], (iq_sh l, I, J, X))) (fun _ => rfl) hc_ ?_
                refine iq_G_go (k := 2) (σ' := (121, [some (.ref 61)], [.int (1 : Int32), .ref 61], (iq_sh l, I, J, X))) (fun _ => rfl) ?_
                obtain ⟨q8, hq8, h⟩ := iq_bnd h
                refine iq_G_call (σ' := (124, [some (.ref 61)], [.int q8.1], (iq_sh l, q8.2, J, X))) (fun _ => rfl) (zR_refuse_ok l (1 : Int32) I J X hq8) rfl rfl ?_
                obtain ⟨hc_, h⟩ := iq_itn h
                have h := Option.some.inj h
                subst h
                exact iq_G_rif (c := q8.1 = 0 ∨ q8.1 = 1) (fun _ => rfl) hc_
              · refine iq_G_neg (c := q7 = 0) (σ1 := (114, [some (.ref 61)], [], (iq_sh l, I, J, X))) (fun _ => rfl) hc_ ?_
                refine iq_G_go (k := 1) (σ' := (115, [some (.ref 61)], [.ref 61], (iq_sh l, I, J, X))) (fun _ => rfl) ?_
                obtain ⟨q9, hq9, h⟩ := iq_bnd h
                refine iq_G_call (σ' := (118, [some (.ref 61)], [.int q9.1], (iq_sh l, q9.2, J, X))) (fun _ => rfl) (zR_readLaw_ok l  I J X hq9) rfl rfl ?_
                obtain ⟨hc_, h⟩ := iq_itn h
                have h := Option.some.inj h
                subst h
                exact iq_G_rif (c := q9.1 = 0 ∨ q9.1 = 1) (fun _ => rfl) hc_
            · refine iq_G_neg (c := q6 = 0) (σ1 := (97, [some (.ref 61)], [], (iq_sh l, I, J, X))) (fun _ => rfl) hc_ ?_
              refine iq_G_go (k := 1) (σ' := (98, [some (.ref 61)], [.ref 61], (iq_sh l, I, J, X))) (fun _ => rfl) ?_
              obtain ⟨q10, hq10, h⟩ := iq_bnd h
              refine iq_G_call (σ' := (101, [some (.ref 61)], [.int q10.1], (iq_sh l, q10.2, J, X))) (fun _ => rfl) (zR_readHabit_ok l  I J X hq10) rfl rfl ?_
              obtain ⟨hc_, h⟩ := iq_itn h
              have h := Option.some.inj h
              subst h
              exact iq_G_rif (c := q10.1 = 0 ∨ q10.1 = 1) (fun _ => rfl) hc_
          · refine iq_G_neg (c := q5 = 0) (σ1 := (80, [some (.ref 61)], [], (iq_sh l, I, J, X))) (fun _ => rfl) hc_ ?_
            refine iq_G_go (k := 1) (σ' := (81, [some (.ref 61)], [.ref 61], (iq_sh l, I, J, X))) (fun _ => rfl) ?_
            obtain ⟨q11, hq11, h⟩ := iq_bnd h
            refine iq_G_call (σ' := (84, [some (.ref 61)], [.int q11.1], (iq_sh l, q11.2, J, X))) (fun _ => rfl) (zR_readSaying_ok l  I J X hq11) rfl rfl ?_
            obtain ⟨hc_, h⟩ := iq_itn h
            have h := Option.some.inj h
            subst h
            exact iq_G_rif (c := q11.1 = 0 ∨ q11.1 = 1) (fun _ => rfl) hc_
        · refine iq_G_neg (c := q4 = 0) (σ1 := (63, [some (.ref 61)], [], (iq_sh l, I, J, X))) (fun _ => rfl) hc_ ?_
          refine iq_G_go (k := 1) (σ' := (64, [some (.ref 61)], [.ref 61], (iq_sh l, I, J, X))) (fun _ => rfl) ?_
          obtain ⟨q12, hq12, h⟩ := iq_bnd h
          refine iq_G_call (σ' := (67, [some (.ref 61)], [.int q12.1], (iq_sh l, q12.2, J, X))) (fun _ => rfl) (zR_readCost_ok l  I J X hq12) rfl rfl ?_
          obtain ⟨hc_, h⟩ := iq_itn h
          have h := Option.some.inj h
          subst h
          exact iq_G_rif (c := q12.1 = 0 ∨ q12.1 = 1) (fun _ => rfl) hc_
      · refine iq_G_neg (c := q3 = 0) (σ1 := (46, [some (.ref 61)], [], (iq_sh l, I, J, X))) (fun _ => rfl) hc_ ?_
        refine iq_G_go (k := 1) (σ' := (47, [some (.ref 61)], [.ref 61], (iq_sh l, I, J, X))) (fun _ => rfl) ?_
        obtain ⟨q13, hq13, h⟩ := iq_bnd h
        refine iq_G_call (σ' := (50, [some (.ref 61)], [.int q13.1], (iq_sh l, q13.2, J, X))) (fun _ => rfl) (zR_readArc_ok l  I J X hq13) rfl rfl ?_
        obtain ⟨hc_, h⟩ := iq_itn h
        have h := Option.some.inj h
        subst h
        exact iq_G_rif (c := q13.1 = 0 ∨ q13.1 = 1) (fun _ => rfl) hc_
    · refine iq_G_neg (c := q2 = 0) (σ1 := (29, [some (.ref 61)], [], (iq_sh l, I, J, X))) (fun _ => rfl) hc_ ?_
      refine iq_G_go (k := 1) (σ' := (30, [some (.ref 61)], [.ref 61], (iq_sh l, I, J, X))) (fun _ => rfl) ?_
      obtain ⟨q14, hq14, h⟩ := iq_bnd h
      refine iq_G_call (σ' := (33, [some (.ref 61)], [.int q14.1], (iq_sh l, q14.2, J, X))) (fun _ => rfl) (zR_readWord_ok l  I J X hq14) rfl rfl ?_
      obtain ⟨hc_, h⟩ := iq_itn h
      have h := Option.some.inj h
      subst h
      exact iq_G_rif (c := q14.1 = 0 ∨ q14.1 = 1) (fun _ => rfl) hc_
  · refine iq_G_neg (c := q1 = 0) (σ1 := (12, [some (.ref 61)], [], (iq_sh l, I, J, X))) (fun _ => rfl) hc_ ?_
    refine iq_G_go (k := 1) (σ' := (13, [some (.ref 61)], [.ref 61], (iq_sh l, I, J, X))) (fun _ => rfl) ?_
    obtain ⟨q15, hq15, h⟩ := iq_bnd h
    refine iq_G_call (σ' := (16, [some (.ref 61)], [.int q15.1], (iq_sh l, q15.2, J, X))) (fun _ => rfl) (zR_readState_ok l  I J X hq15) rfl rfl ?_
    obtain ⟨hc_, h⟩ := iq_itn h
    have h := Option.some.inj h
    subst h
    exact iq_G_rif (c := q15.1 = 0 ∨ q15.1 = 1) (fun _ => rfl) hc_
set_option maxRecDepth 100000 in
theorem zR_read_l34_bok (l : Nat)   (J : iq_J) (X : iq_X) (x2 : Int32) (I : iq_I) {q : (Int32 × iq_I) ⊕ ((iq_I) ⊕ (Int32 × iq_I))} (h : zR_read_l34_b  x2 I = some q) (r : iq_R × iq_M) (hc : ∀ v, q = .inl v → iq_Gg 69 84 (34, [some (.ref 61), none, some (.int v.1)], [], (iq_sh l, v.2, J, X)) r) (hx : ∀ w, q = .inr w → (∀ a, w = .inl a → iq_Gg 69 84 (69, [some (.ref 61), none, none], [], (iq_sh l, a, J, X)) r) ∧ (∀ b, w = .inr b → r = (.inl (some (.int b.1)), (iq_sh l, b.2, J, X)))) : iq_Gg 69 84 (34, [some (.ref 61), none, some (.int x2)], [], (iq_sh l, I, J, X)) r := by
  unfold zR_read_l34_b at h
  refine iq_G_go (k := 2) (σ' := (38, [some (.ref 61), none, some (.int x2)], [.int (700 : Int32), .int x2], (iq_sh l, I, J, X))) (fun _ => rfl) ?_
  rcases iq_ite h with ⟨hc_, h⟩ | ⟨hc_, h⟩
  · refine iq_G_pos (c := (700 : Int32) < x2) (σ1 := (69, [some (.ref 61), none, some (.int x2)], [], (iq_sh l, I, J, X))) (fun _ => rfl) hc_ ?_
    cases h
    exact iq_G_fg (L := [some (.ref 61), none, none]) (And.intro rfl trivial) ((hx (.inl I) rfl).1 I rfl)
  · refine iq_G_neg (c := (700 : Int32) < x2) (σ1 := (41, [some (.ref 61), none, some (.int x2)], [], (iq_sh l, I, J, X))) (fun _ => rfl) hc_ ?_
    refine iq_G_go (k := 3) (σ' := (48, [some (.ref 61), none, some (.int x2)], [.int (I 62 0)], (iq_sh l, I, J, X))) (fun _ => rfl) ?_
    rcases iq_ite h with ⟨hc_, h⟩ | ⟨hc_, h⟩
    · refine iq_G_pos (c := (I 62 0) = 0) (σ1 := (58, [some (.ref 61), none, some (.int x2)], [], (iq_sh l, I, J, X))) (fun _ => rfl) hc_ ?_
      refine iq_G_go (k := 2) (σ' := (62, [some (.ref 61), none, some (.int x2)], [.int (I 61 1)], (iq_sh l, I, J, X))) (fun _ => rfl) ?_
      cases h
      obtain rfl := (hx _ rfl).2 _ rfl
      exact iq_G_ret (fun _ => rfl)
    · refine iq_G_neg (c := (I 62 0) = 0) (σ1 := (51, [some (.ref 61), none, some (.int x2)], [], (iq_sh l, I, J, X))) (fun _ => rfl) hc_ ?_
      refine iq_G_go (k := 1) (σ' := (52, [some (.ref 61), none, some (.int x2)], [.ref 61], (iq_sh l, I, J, X))) (fun _ => rfl) ?_
      obtain ⟨q6, hq6, h⟩ := iq_bnd h
      refine iq_G_call (σ' := (55, [some (.ref 61), none, some (.int x2)], [.int q6.1], (iq_sh l, q6.2, J, X))) (fun _ => rfl) (zR_readLine_ok l  I J X hq6) rfl rfl ?_
      rcases iq_ite h with ⟨hc_, h⟩ | ⟨hc_, h⟩
      · refine iq_G_pos (c := ¬ q6.1 = 0) (σ1 := (63, [some (.ref 61), none, some (.int x2)], [], (iq_sh l, q6.2, J, X))) (fun _ => rfl) hc_ ?_
        refine iq_G_go (k := 2) (σ' := (34, [some (.ref 61), none, some (.int (x2 + (1 : Int32)))], [], (iq_sh l, q6.2, J, X))) (fun _ => rfl) ?_
        cases h
        exact iq_G_fg (L := [some (.ref 61), none, some (.int (x2 + (1 : Int32)))]) (And.intro rfl (And.intro rfl trivial)) (hc ((x2 + (1 : Int32)), q6.2) rfl)
      · refine iq_G_neg (c := ¬ q6.1 = 0) (σ1 := (58, [some (.ref 61), none, some (.int x2)], [], (iq_sh l, q6.2, J, X))) (fun _ => rfl) hc_ ?_
        refine iq_G_go (k := 2) (σ' := (62, [some (.ref 61), none, some (.int x2)], [.int (q6.2 61 1)], (iq_sh l, q6.2, J, X))) (fun _ => rfl) ?_
        cases h
        obtain rfl := (hx _ rfl).2 _ rfl
        exact iq_G_ret (fun _ => rfl)
set_option maxRecDepth 100000 in
theorem zR_read_l34_ok (l : Nat)   (J : iq_J) (X : iq_X) {n : Nat} {v : Int32 × iq_I} {w : (iq_I) ⊕ (Int32 × iq_I)} (h : zR_read_l34  n v = some w) (r : iq_R × iq_M) (hq : (∀ a, w = .inl a → iq_Gg 69 84 (69, [some (.ref 61), none, none], [], (iq_sh l, a, J, X)) r) ∧ (∀ b, w = .inr b → r = (.inl (some (.int b.1)), (iq_sh l, b.2, J, X)))) : iq_Gg 69 84 (34, [some (.ref 61), none, some (.int v.1)], [], (iq_sh l, v.2, J, X)) r :=
  iq_lp_ok (σ := fun v => (34, [some (.ref 61), none, some (.int v.1)], [], (iq_sh l, v.2, J, X))) (Q := fun w r => (∀ a, w = .inl a → iq_Gg 69 84 (69, [some (.ref 61), none, none], [], (iq_sh l, a, J, X)) r) ∧ (∀ b, w = .inr b → r = (.inl (some (.int b.1)), (iq_sh l, b.2, J, X)))) (fun v q hv r h1 h2 => zR_read_l34_bok l J X v.1 v.2 hv r h1 h2) h r hq
set_option maxRecDepth 100000 in
theorem zR_read_ok (l : Nat)  (x1 : Int32) (I : iq_I) (J : iq_J) (X : iq_X) {q : Int32 × iq_I} (h : zR_read x1 I = some q) : iq_Cc 70 84 [.ref 61, .int x1] (iq_sh l, I, J, X) (.inl (some (.int q.1)), (iq_sh l, q.2, J, X)) := by
  refine iq_Cc_of (L := [some (.ref 61), some (.int x1), none]) rfl rfl ?_
  unfold zR_read at h
  refine iq_G_go (k := 2) (σ' := (4, [some (.ref 61), some (.int x1), none], [.ref 38], (iq_sh l, I, J, X))) (fun _ => rfl) ?_
  obtain ⟨q1, hq1, h⟩ := iq_bnd h
  refine iq_G_call (σ' := (7, [some (.ref 61), some (.int x1), none], [], (iq_sh l, q1, J, X))) (fun _ => rfl) (zU_clear_ok l  I J X hq1) rfl rfl ?_
  refine iq_G_go (k := 2) (σ' := (11, [some (.ref 61), some (.int x1), none], [.ref 50], (iq_sh l, q1, J, X))) (fun _ => rfl) ?_
  obtain ⟨q2, hq2, h⟩ := iq_bnd h
  refine iq_G_call (σ' := (14, [some (.ref 61), some (.int x1), none], [], (iq_sh l, q2, J, X))) (fun _ => rfl) (zG_clear_ok l  q1 J X hq2) rfl rfl ?_
  refine iq_G_go (k := 2) (σ' := (16, [some (.ref 61), some (.int x1), none], [.int (0 : Int32), .ref 61], (iq_sh l, q2, J, X))) (fun _ => rfl) ?_
  refine iq_G_go (k := 1) (σ' := (19, [some (.ref 61), some (.int x1), none], [], (iq_sh l, (iq_upI q2 61 1 (0 : Int32)), J, X))) (fun _ => rfl) ?_
  obtain ⟨I3, eI3, h⟩ := ir_letG h
  rw [← eI3]
  clear eI3
  refine iq_G_go (k := 2) (σ' := (21, [some (.ref 61), some (.int x1), none], [.int (-1 : Int32), .ref 61], (iq_sh l, I3, J, X))) (fun _ => rfl) ?_
  refine iq_G_go (k := 1) (σ' := (24, [some (.ref 61), some (.int x1), none], [], (iq_sh l, (iq_upI I3 61 0 (-1 : Int32)), J, X))) (fun _ => rfl) ?_
  obtain ⟨I4, eI4, h⟩ := ir_letG h
  rw [← eI4]
  clear eI4
  refine iq_G_go (k := 3) (σ' := (29, [some (.ref 61), some (.int x1), none], [.int x1, .ref 62], (iq_sh l, I4, J, X))) (fun _ => rfl) ?_
  obtain ⟨q5, hq5, h⟩ := iq_bnd h
  refine iq_G_call (σ' := (32, [some (.ref 61), some (.int x1), none], [], (iq_sh l, q5, J, X))) (fun _ => rfl) (zT_begin_ok l x1 I4 J X hq5) rfl rfl ?_
  refine iq_G_go (k := 2) (σ' := (34, [some (.ref 61), some (.int x1), some (.int (0 : Int32))], [], (iq_sh l, q5, J, X))) (fun _ => rfl) ?_
  obtain ⟨w7, hw7, h⟩ := iq_bnd h
  refine iq_G_fg (L := [some (.ref 61), none, some (.int (0 : Int32))]) (And.intro rfl (And.intro rfl trivial)) ?_
  refine zR_read_l34_ok l J X hw7 _ ⟨fun a8 ha => ?_, fun b9 hb => ?_⟩
  · subst ha
    replace h := ir_smL h
    show iq_Gg 69 84 (69, [some (.ref 61), none, none], [], (iq_sh l, a8, J, X)) _
    refine iq_G_go (k := 2) (σ' := (73, [some (.ref 61), none, none], [.int (a8 61 1)], (iq_sh l, a8, J, X))) (fun _ => rfl) ?_
    cases h
    exact iq_G_ret (fun _ => rfl)
  · subst hb
    replace h := ir_smR h
    cases h
    rfl
set_option maxRecDepth 100000 in
theorem zE_copyFrom_ok (l : Nat)   (I : iq_I) (J : iq_J) (X : iq_X) {q : iq_I} (h : zE_copyFrom I = some q) : iq_Cc 1 129 [.ref 8, .ref 42] (iq_sh l, I, J, X) (.inl none, (iq_sh l, q, J, X)) := by
  refine iq_Cc_of (L := [some (.ref 8), some (.ref 42)]) rfl rfl ?_
  unfold zE_copyFrom at h
  refine iq_G_go (k := 3) (σ' := (5, [some (.ref 8), some (.ref 42)], [.int (I 42 0), .ref 8], (iq_sh l, I, J, X))) (fun _ => rfl) ?_
  refine iq_G_go (k := 1) (σ' := (8, [some (.ref 8), some (.ref 42)], [], (iq_sh l, (iq_upI I 8 0 (I 42 0)), J, X))) (fun _ => rfl) ?_
  obtain ⟨I1, eI1, h⟩ := ir_letG h
  rw [← eI1]
  clear eI1
  refine iq_G_go (k := 3) (σ' := (13, [some (.ref 8), some (.ref 42)], [.int (I1 42 1), .ref 8], (iq_sh l, I1, J, X))) (fun _ => rfl) ?_
  obtain ⟨hc_, h⟩ := iq_itn h
  refine iq_G_pos (c := (I1 42 1) = 0 ∨ (I1 42 1) = 1) (σ1 := (16, [some (.ref 8), some (.ref 42)], [], (iq_sh l, (iq_upI I1 8 1 (I1 42 1)), J, X))) (fun _ => rfl) hc_ ?_
  obtain ⟨I2, eI2, h⟩ := ir_letG h
  rw [← eI2]
  clear eI2
  refine iq_G_go (k := 3) (σ' := (21, [some (.ref 8), some (.ref 42)], [.int (I2 42 2), .ref 8], (iq_sh l, I2, J, X))) (fun _ => rfl) ?_
  refine iq_G_go (k := 1) (σ' := (24, [some (.ref 8), some (.ref 42)], [], (iq_sh l, (iq_upI I2 8 2 (I2 42 2)), J, X))) (fun _ => rfl) ?_
  obtain ⟨I3, eI3, h⟩ := ir_letG h
  rw [← eI3]
  clear eI3
  refine iq_G_go (k := 9) (σ' := (39, [some (.ref 8), some (.ref 42)], [.int (700 : Int32), .int (0 : Int32), .ref 9, .int (0 : Int32), .ref 43], (iq_sh l, I3, J, X))) (fun _ => rfl) ?_
  refine iq_G_go (k := 1) (σ' := (42, [some (.ref 8), some (.ref 42)], [], (iq_sh l, (iq_cpI I3 43 9 0 0 700), J, X))) (fun _ => rfl) ?_
  obtain ⟨I4, eI4, h⟩ := ir_letG h
  rw [← eI4]
  clear eI4
  refine iq_G_go (k := 9) (σ' := (57, [some (.ref 8), some (.ref 42)], [.int (5 : Int32), .int (0 : Int32), .ref 10, .int (0 : Int32), .ref 44], (iq_sh l, I4, J, X))) (fun _ => rfl) ?_
  refine iq_G_go (k := 1) (σ' := (60, [some (.ref 8), some (.ref 42)], [], (iq_sh l, (iq_cpI I4 44 10 0 0 5), J, X))) (fun _ => rfl) ?_
  obtain ⟨I5, eI5, h⟩ := ir_letG h
  rw [← eI5]
  clear eI5
  refine iq_G_go (k := 9) (σ' := (75, [some (.ref 8), some (.ref 42)], [.int (5 : Int32), .int (0 : Int32), .ref 11, .int (0 : Int32), .ref 45], (iq_sh l, I5, J, X))) (fun _ => rfl) ?_
  refine iq_G_go (k := 1) (σ' := (78, [some (.ref 8), some (.ref 42)], [], (iq_sh l, (iq_cpI I5 45 11 0 0 5), J, X))) (fun _ => rfl) ?_
  obtain ⟨I6, eI6, h⟩ := ir_letG h
  rw [← eI6]
  clear eI6
  cases h
  exact iq_G_ret (fun _ => rfl)
set_option maxRecDepth 100000 in
theorem zU_copyFrom_ok (l : Nat)   (I : iq_I) (J : iq_J) (X : iq_X) {q : iq_I} (h : zU_copyFrom I = some q) : iq_Cc 2 37 [.ref 4, .ref 38] (iq_sh l, I, J, X) (.inl none, (iq_sh l, q, J, X)) := by
  refine iq_Cc_of (L := [some (.ref 4), some (.ref 38)]) rfl rfl ?_
  unfold zU_copyFrom at h
  refine iq_G_go (k := 3) (σ' := (5, [some (.ref 4), some (.ref 38)], [.int (I 38 0), .ref 4], (iq_sh l, I, J, X))) (fun _ => rfl) ?_
  refine iq_G_go (k := 1) (σ' := (8, [some (.ref 4), some (.ref 38)], [], (iq_sh l, (iq_upI I 4 0 (I 38 0)), J, X))) (fun _ => rfl) ?_
  obtain ⟨I1, eI1, h⟩ := ir_letG h
  rw [← eI1]
  clear eI1
  refine iq_G_go (k := 3) (σ' := (13, [some (.ref 4), some (.ref 38)], [.int (I1 38 1), .ref 4], (iq_sh l, I1, J, X))) (fun _ => rfl) ?_
  refine iq_G_go (k := 1) (σ' := (16, [some (.ref 4), some (.ref 38)], [], (iq_sh l, (iq_upI I1 4 1 (I1 38 1)), J, X))) (fun _ => rfl) ?_
  obtain ⟨I2, eI2, h⟩ := ir_letG h
  rw [← eI2]
  clear eI2
  refine iq_G_go (k := 3) (σ' := (21, [some (.ref 4), some (.ref 38)], [.int (I2 38 2), .ref 4], (iq_sh l, I2, J, X))) (fun _ => rfl) ?_
  refine iq_G_go (k := 1) (σ' := (24, [some (.ref 4), some (.ref 38)], [], (iq_sh l, (iq_upI I2 4 2 (I2 38 2)), J, X))) (fun _ => rfl) ?_
  obtain ⟨I3, eI3, h⟩ := ir_letG h
  rw [← eI3]
  clear eI3
  refine iq_G_go (k := 3) (σ' := (29, [some (.ref 4), some (.ref 38)], [.int (I3 38 3), .ref 4], (iq_sh l, I3, J, X))) (fun _ => rfl) ?_
  refine iq_G_go (k := 1) (σ' := (32, [some (.ref 4), some (.ref 38)], [], (iq_sh l, (iq_upI I3 4 3 (I3 38 3)), J, X))) (fun _ => rfl) ?_
  obtain ⟨I4, eI4, h⟩ := ir_letG h
  rw [← eI4]
  clear eI4
  refine iq_G_go (k := 3) (σ' := (37, [some (.ref 4), some (.ref 38)], [.int (I4 38 4), .ref 4], (iq_sh l, I4, J, X))) (fun _ => rfl) ?_
  refine iq_G_go (k := 1) (σ' := (40, [some (.ref 4), some (.ref 38)], [], (iq_sh l, (iq_upI I4 4 4 (I4 38 4)), J, X))) (fun _ => rfl) ?_
  obtain ⟨I5, eI5, h⟩ := ir_letG h
  rw [← eI5]
  clear eI5
  refine iq_G_go (k := 3) (σ' := (45, [some (.ref 4), some (.ref 38)], [.int (I5 38 5), .ref 4], (iq_sh l, I5, J, X))) (fun _ => rfl) ?_
  refine iq_G_go (k := 1) (σ' := (48, [some (.ref 4), some (.ref 38)], [], (iq_sh l, (iq_upI I5 4 5 (I5 38 5)), J, X))) (fun _ => rfl) ?_
  obtain ⟨I6, eI6, h⟩ := ir_letG h
  rw [← eI6]
  clear eI6
  refine iq_G_go (k := 9) (σ' := (63, [some (.ref 4), some (.ref 38)], [.int (14 : Int32), .int (0 : Int32), .ref 5, .int (0 : Int32), .ref 39], (iq_sh l, I6, J, X))) (fun _ => rfl) ?_
  refine iq_G_go (k := 1) (σ' := (66, [some (.ref 4), some (.ref 38)], [], (iq_sh l, (iq_cpI I6 39 5 0 0 14), J, X))) (fun _ => rfl) ?_
  obtain ⟨I7, eI7, h⟩ := ir_letG h
  rw [← eI7]
  clear eI7
  refine iq_G_go (k := 9) (σ' := (81, [some (.ref 4), some (.ref 38)], [.int (14 : Int32), .int (0 : Int32), .ref 6, .int (0 : Int32), .ref 40], (iq_sh l, I7, J, X))) (fun _ => rfl) ?_
  refine iq_G_go (k := 1) (σ' := (84, [some (.ref 4), some (.ref 38)], [], (iq_sh l, (iq_cpI I7 40 6 0 0 14), J, X))) (fun _ => rfl) ?_
  obtain ⟨I8, eI8, h⟩ := ir_letG h
  rw [← eI8]
  clear eI8
  refine iq_G_go (k := 9) (σ' := (99, [some (.ref 4), some (.ref 38)], [.int (8 : Int32), .int (0 : Int32), .ref 7, .int (0 : Int32), .ref 41], (iq_sh l, I8, J, X))) (fun _ => rfl) ?_
  refine iq_G_go (k := 1) (σ' := (102, [some (.ref 4), some (.ref 38)], [], (iq_sh l, (iq_cpI I8 41 7 0 0 8), J, X))) (fun _ => rfl) ?_
  obtain ⟨I9, eI9, h⟩ := ir_letG h
  rw [← eI9]
  clear eI9
  refine iq_G_go (k := 9) (σ' := (117, [some (.ref 4), some (.ref 38)], [.int (126 : Int32), .int (0 : Int32), .ref 13, .int (0 : Int32), .ref 47], (iq_sh l, I9, J, X))) (fun _ => rfl) ?_
  refine iq_G_go (k := 1) (σ' := (120, [some (.ref 4), some (.ref 38)], [], (iq_sh l, (iq_cpI I9 47 13 0 0 126), J, X))) (fun _ => rfl) ?_
  obtain ⟨I10, eI10, h⟩ := ir_letG h
  rw [← eI10]
  clear eI10
  refine iq_G_go (k := 9) (σ' := (135, [some (.ref 4), some (.ref 38)], [.int (80 : Int32), .int (0 : Int32), .ref 14, .int (0 : Int32), .ref 48], (iq_sh l, I10, J, X))) (fun _ => rfl) ?_
  refine iq_G_go (k := 1) (σ' := (138, [some (.ref 4), some (.ref 38)], [], (iq_sh l, (iq_cpI I10 48 14 0 0 80), J, X))) (fun _ => rfl) ?_
  obtain ⟨I11, eI11, h⟩ := ir_letG h
  rw [← eI11]
  clear eI11
  refine iq_G_go (k := 9) (σ' := (153, [some (.ref 4), some (.ref 38)], [.int (8 : Int32), .int (0 : Int32), .ref 15, .int (0 : Int32), .ref 49], (iq_sh l, I11, J, X))) (fun _ => rfl) ?_
  refine iq_G_go (k := 1) (σ' := (156, [some (.ref 4), some (.ref 38)], [], (iq_sh l, (iq_cpI I11 49 15 0 0 8), J, X))) (fun _ => rfl) ?_
  obtain ⟨I12, eI12, h⟩ := ir_letG h
  rw [← eI12]
  clear eI12
  refine iq_G_go (k := 4) (σ' := (164, [some (.ref 4), some (.ref 38)], [.ref 42, .ref 8], (iq_sh l, I12, J, X))) (fun _ => rfl) ?_
  obtain ⟨q13, hq13, h⟩ := iq_bnd h
  refine iq_G_call (σ' := (167, [some (.ref 4), some (.ref 38)], [], (iq_sh l, q13, J, X))) (fun _ => rfl) (zE_copyFrom_ok l  I12 J X hq13) rfl rfl ?_
  cases h
  exact iq_G_ret (fun _ => rfl)
set_option maxRecDepth 100000 in
theorem zA_copyFrom_19_53_ok (l : Nat)   (I : iq_I) (J : iq_J) (X : iq_X) {q : iq_I} (h : zA_copyFrom_19_53 I = some q) : iq_Cc 1 3 [.ref 19, .ref 53] (iq_sh l, I, J, X) (.inl none, (iq_sh l, q, J, X)) := by
  refine iq_Cc_of (L := [some (.ref 19), some (.ref 53)]) rfl rfl ?_
  unfold zA_copyFrom_19_53 at h
  refine iq_G_go (k := 3) (σ' := (5, [some (.ref 19), some (.ref 53)], [.int (I 53 0), .ref 19], (iq_sh l, I, J, X))) (fun _ => rfl) ?_
  refine iq_G_go (k := 1) (σ' := (8, [some (.ref 19), some (.ref 53)], [], (iq_sh l, (iq_upI I 19 0 (I 53 0)), J, X))) (fun _ => rfl) ?_
  obtain ⟨I1, eI1, h⟩ := ir_letG h
  rw [← eI1]
  clear eI1
  refine iq_G_go (k := 7) (σ' := (20, [some (.ref 19), some (.ref 53)], [.int (40 : Int32), .int (0 : Int32), .ref 20, .int (0 : Int32), .ref 54], (iq_sh l, I1, J, X))) (fun _ => rfl) ?_
  refine iq_G_go (k := 1) (σ' := (23, [some (.ref 19), some (.ref 53)], [], (iq_sh l, (iq_cpI I1 54 20 0 0 40), J, X))) (fun _ => rfl) ?_
  obtain ⟨I2, eI2, h⟩ := ir_letG h
  rw [← eI2]
  clear eI2
  refine iq_G_go (k := 7) (σ' := (35, [some (.ref 19), some (.ref 53)], [.int (40 : Int32), .int (0 : Int32), .ref 21, .int (0 : Int32), .ref 55], (iq_sh l, I2, J, X))) (fun _ => rfl) ?_
  refine iq_G_go (k := 1) (σ' := (38, [some (.ref 19), some (.ref 53)], [], (iq_sh l, (iq_cpI I2 55 21 0 0 40), J, X))) (fun _ => rfl) ?_
  obtain ⟨I3, eI3, h⟩ := ir_letG h
  rw [← eI3]
  clear eI3
  refine iq_G_go (k := 7) (σ' := (50, [some (.ref 19), some (.ref 53)], [.int (40 : Int32), .int (0 : Int32), .ref 22, .int (0 : Int32), .ref 56], (iq_sh l, I3, J, X))) (fun _ => rfl) ?_
  refine iq_G_go (k := 1) (σ' := (53, [some (.ref 19), some (.ref 53)], [], (iq_sh l, (iq_cpI I3 56 22 0 0 40), J, X))) (fun _ => rfl) ?_
  obtain ⟨I4, eI4, h⟩ := ir_letG h
  rw [← eI4]
  clear eI4
  refine iq_G_go (k := 7) (σ' := (65, [some (.ref 19), some (.ref 53)], [.int (40 : Int32), .int (0 : Int32), .ref 23, .int (0 : Int32), .ref 57], (iq_sh l, I4, J, X))) (fun _ => rfl) ?_
  refine iq_G_go (k := 1) (σ' := (68, [some (.ref 19), some (.ref 53)], [], (iq_sh l, (iq_cpI I4 57 23 0 0 40), J, X))) (fun _ => rfl) ?_
  obtain ⟨I5, eI5, h⟩ := ir_letG h
  rw [← eI5]
  clear eI5
  cases h
  exact iq_G_ret (fun _ => rfl)
set_option maxRecDepth 100000 in
theorem zG_copyFrom_16_50_ok (l : Nat)   (I : iq_I) (J : iq_J) (X : iq_X) {q : iq_I} (h : zG_copyFrom_16_50 I = some q) : iq_Cc 2 6 [.ref 16, .ref 50] (iq_sh l, I, J, X) (.inl none, (iq_sh l, q, J, X)) := by
  refine iq_Cc_of (L := [some (.ref 16), some (.ref 50)]) rfl rfl ?_
  unfold zG_copyFrom_16_50 at h
  refine iq_G_go (k := 3) (σ' := (5, [some (.ref 16), some (.ref 50)], [.int (I 50 0), .ref 16], (iq_sh l, I, J, X))) (fun _ => rfl) ?_
  refine iq_G_go (k := 1) (σ' := (8, [some (.ref 16), some (.ref 50)], [], (iq_sh l, (iq_upI I 16 0 (I 50 0)), J, X))) (fun _ => rfl) ?_
  obtain ⟨I1, eI1, h⟩ := ir_letG h
  rw [← eI1]
  clear eI1
  refine iq_G_go (k := 3) (σ' := (13, [some (.ref 16), some (.ref 50)], [.int (I1 50 1), .ref 16], (iq_sh l, I1, J, X))) (fun _ => rfl) ?_
  refine iq_G_go (k := 1) (σ' := (16, [some (.ref 16), some (.ref 50)], [], (iq_sh l, (iq_upI I1 16 1 (I1 50 1)), J, X))) (fun _ => rfl) ?_
  obtain ⟨I2, eI2, h⟩ := ir_letG h
  rw [← eI2]
  clear eI2
  refine iq_G_go (k := 3) (σ' := (21, [some (.ref 16), some (.ref 50)], [.int (I2 50 2), .ref 16], (iq_sh l, I2, J, X))) (fun _ => rfl) ?_
  refine iq_G_go (k := 1) (σ' := (24, [some (.ref 16), some (.ref 50)], [], (iq_sh l, (iq_upI I2 16 2 (I2 50 2)), J, X))) (fun _ => rfl) ?_
  obtain ⟨I3, eI3, h⟩ := ir_letG h
  rw [← eI3]
  clear eI3
  refine iq_G_go (k := 7) (σ' := (35, [some (.ref 16), some (.ref 50)], [.int (5 : Int32), .int (0 : Int32), .ref 17, .int (0 : Int32), .ref 51], (iq_sh l, I3, J, X))) (fun _ => rfl) ?_
  refine iq_G_go (k := 1) (σ' := (38, [some (.ref 16), some (.ref 50)], [], (iq_sh l, (iq_cpI I3 51 17 0 0 5), J, X))) (fun _ => rfl) ?_
  obtain ⟨I4, eI4, h⟩ := ir_letG h
  rw [← eI4]
  clear eI4
  refine iq_G_go (k := 7) (σ' := (49, [some (.ref 16), some (.ref 50)], [.int (5 : Int32), .int (0 : Int32), .ref 18, .int (0 : Int32), .ref 52], (iq_sh l, I4, J, X))) (fun _ => rfl) ?_
  refine iq_G_go (k := 1) (σ' := (52, [some (.ref 16), some (.ref 50)], [], (iq_sh l, (iq_cpI I4 52 18 0 0 5), J, X))) (fun _ => rfl) ?_
  obtain ⟨I5, eI5, h⟩ := ir_letG h
  rw [← eI5]
  clear eI5
  refine iq_G_go (k := 9) (σ' := (67, [some (.ref 16), some (.ref 50)], [.int (200 : Int32), .int (0 : Int32), .ref 24, .int (0 : Int32), .ref 58], (iq_sh l, I5, J, X))) (fun _ => rfl) ?_
  refine iq_G_go (k := 1) (σ' := (70, [some (.ref 16), some (.ref 50)], [], (iq_sh l, (iq_cpI I5 58 24 0 0 200), J, X))) (fun _ => rfl) ?_
  obtain ⟨I6, eI6, h⟩ := ir_letG h
  rw [← eI6]
  clear eI6
  refine iq_G_go (k := 7) (σ' := (81, [some (.ref 16), some (.ref 50)], [.int (3 : Int32), .int (0 : Int32), .ref 25, .int (0 : Int32), .ref 59], (iq_sh l, I6, J, X))) (fun _ => rfl) ?_
  refine iq_G_go (k := 1) (σ' := (84, [some (.ref 16), some (.ref 50)], [], (iq_sh l, (iq_cpI I6 59 25 0 0 3), J, X))) (fun _ => rfl) ?_
  obtain ⟨I7, eI7, h⟩ := ir_letG h
  rw [← eI7]
  clear eI7
  refine iq_G_go (k := 7) (σ' := (95, [some (.ref 16), some (.ref 50)], [.int (3 : Int32), .int (0 : Int32), .ref 26, .int (0 : Int32), .ref 60], (iq_sh l, I7, J, X))) (fun _ => rfl) ?_
  refine iq_G_go (k := 1) (σ' := (98, [some (.ref 16), some (.ref 50)], [], (iq_sh l, (iq_cpI I7 60 26 0 0 3), J, X))) (fun _ => rfl) ?_
  obtain ⟨I8, eI8, h⟩ := ir_letG h
  rw [← eI8]
  clear eI8
  refine iq_G_go (k := 4) (σ' := (106, [some (.ref 16), some (.ref 50)], [.ref 53, .ref 19], (iq_sh l, I8, J, X))) (fun _ => rfl) ?_
  obtain ⟨q9, hq9, h⟩ := iq_bnd h
  refine iq_G_call (σ' := (109, [some (.ref 16), some (.ref 50)], [], (iq_sh l, q9, J, X))) (fun _ => rfl) (zA_copyFrom_19_53_ok l  I8 J X hq9) rfl rfl ?_
  cases h
  exact iq_G_ret (fun _ => rfl)

