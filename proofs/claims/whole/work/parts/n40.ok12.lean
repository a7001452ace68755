/-! ===== the abstract machine does the same (printed by wip/whole/emitall.py, split.py) ===== -/
set_option maxRecDepth 100000 in
theorem zM_fly_48_ok (l : Nat)   (I : iq_I) (J : iq_J) (X : iq_X)  {q : Int32 × iq_I} (h : zM_fly_48 I = some q)  : iq_Gg 2 267 (48, [some (.ref 76), none, none, none], [], (iq_sh l, I, J, X)) (.inl (some (.int q.1)), (iq_sh l, q.2, J, X)) := by
  unfold zM_fly_48 at h
  refine iq_G_go (k := 2) (σ' := (50, [some (.ref 76), none, none, none], [.int (1 : Int32), .ref 76], (iq_sh l, I, J, X))) (fun _ => rfl) ?_
  obtain ⟨q4, hq4, h⟩ := iq_bnd h
  refine iq_G_call (σ' := (53, [some (.ref 76), none, none, none], [.int q4.1], (iq_sh l, q4.2, J, X))) (fun _ => rfl) (zM_refuses_ok l (1 : Int32) I J X hq4) rfl rfl ?_
  cases h
  exact iq_G_ret (fun _ => rfl)
set_option maxRecDepth 100000 in
theorem zM_fly_ok (l : Nat)  (x1 : Int32) (x2 : Int32) (x3 : Int32) (I : iq_I) (J : iq_J) (X : iq_X) {q : Int32 × iq_I} (h : zM_fly x1 x2 x3 I = some q) : iq_Cc 3 267 [.ref 76, .int x1, .int x2, .int x3] (iq_sh l, I, J, X) (.inl (some (.int q.1)), (iq_sh l, q.2, J, X)) := by
  refine iq_Cc_of (L := [some (.ref 76), some (.int x1), some (.int x2), some (.int x3)]) rfl rfl ?_
  unfold zM_fly at h
  refine iq_G_go (k := 2) (σ' := (2, [some (.ref 76), some (.int x1), some (.int x2), some (.int x3)], [.int (0 : Int32), .ref 76], (iq_sh l, I, J, X))) (fun _ => rfl) ?_
  refine iq_G_go (k := 1) (σ' := (5, [some (.ref 76), some (.int x1), some (.int x2), some (.int x3)], [], (iq_sh l, (iq_upI I 76 0 (0 : Int32)), J, X))) (fun _ => rfl) ?_
  obtain ⟨I1, eI1, h⟩ := ir_letG h
  rw [← eI1]
  clear eI1
  refine iq_G_go (k := 2) (σ' := (7, [some (.ref 76), some (.int x1), some (.int x2), some (.int x3)], [.int x1, .ref 76], (iq_sh l, I1, J, X))) (fun _ => rfl) ?_
  obtain ⟨q2, hq2, h⟩ := iq_bnd h
  refine iq_G_call (σ' := (10, [some (.ref 76), some (.int x1), some (.int x2), some (.int x3)], [.int q2.1], (iq_sh l, q2.2, J, X))) (fun _ => rfl) (zM_isSaying_ok l x1 I1 J X hq2) rfl rfl ?_
  rcases iq_ite h with ⟨hc_, h⟩ | ⟨hc_, h⟩
  · refine iq_G_pos (c := q2.1 = 0) (σ1 := (21, [some (.ref 76), some (.int x1), some (.int x2), some (.int x3)], [], (iq_sh l, q2.2, J, X))) (fun _ => rfl) hc_ ?_
    refine iq_G_go (k := 1) (σ' := (22, [some (.ref 76), some (.int x1), some (.int x2), some (.int x3)], [.int (0 : Int32)], (iq_sh l, q2.2, J, X))) (fun _ => rfl) ?_
    cases h
    exact iq_G_ret (fun _ => rfl)
  · refine iq_G_neg (c := q2.1 = 0) (σ1 := (13, [some (.ref 76), some (.int x1), some (.int x2), some (.int x3)], [], (iq_sh l, q2.2, J, X))) (fun _ => rfl) hc_ ?_
    refine iq_G_go (k := 2) (σ' := (15, [some (.ref 76), some (.int x1), some (.int x2), some (.int x3)], [.int x3, .ref 76], (iq_sh l, q2.2, J, X))) (fun _ => rfl) ?_
    obtain ⟨q3, hq3, h⟩ := iq_bnd h
    refine iq_G_call (σ' := (18, [some (.ref 76), some (.int x1), some (.int x2), some (.int x3)], [.int q3.1], (iq_sh l, q3.2, J, X))) (fun _ => rfl) (zM_isWord_ok l x3 q2.2 J X hq3) rfl rfl ?_
    rcases iq_ite h with ⟨hc_, h⟩ | ⟨hc_, h⟩
    · refine iq_G_pos (c := ¬ q3.1 = 0) (σ1 := (23, [some (.ref 76), some (.int x1), some (.int x2), some (.int x3)], [], (iq_sh l, q3.2, J, X))) (fun _ => rfl) hc_ ?_
      refine iq_G_go (k := 3) (σ' := (28, [some (.ref 76), some (.int x1), some (.int x2), some (.int x3)], [.int x1, .ref 98], (iq_sh l, q3.2, J, X))) (fun _ => rfl) ?_
      obtain ⟨hc_, h⟩ := iq_itn h
      refine iq_G_pos (c := iq_in x1 206) (σ1 := (29, [some (.ref 76), some (.int x1), some (.int x2), some (.int x3)], [.int (q3.2 98 (Int32.toNatClampNeg x1))], (iq_sh l, q3.2, J, X))) (fun _ => rfl) hc_ ?_
      refine iq_G_go (k := 1) (σ' := (31, [some (.ref 76), some (.int x1), some (.int x2), some (.int x3)], [.int (40 : Int32), .int (q3.2 98 (Int32.toNatClampNeg x1))], (iq_sh l, q3.2, J, X))) (fun _ => rfl) ?_
      rcases iq_ite h with ⟨hc_, h⟩ | ⟨hc_, h⟩
      · refine iq_G_pos (c := (q3.2 98 (Int32.toNatClampNeg x1)) = (40 : Int32)) (σ1 := (48, [some (.ref 76), some (.int x1), some (.int x2), some (.int x3)], [], (iq_sh l, q3.2, J, X))) (fun _ => rfl) hc_ ?_
        exact iq_G_fg (L := [some (.ref 76), none, none, none]) (And.intro rfl trivial) (zM_fly_48_ok l q3.2 J X  h )
      · refine iq_G_neg (c := (q3.2 98 (Int32.toNatClampNeg x1)) = (40 : Int32)) (σ1 := (34, [some (.ref 76), some (.int x1), some (.int x2), some (.int x3)], [], (iq_sh l, q3.2, J, X))) (fun _ => rfl) hc_ ?_
        refine iq_G_go (k := 1) (σ' := (35, [some (.ref 76), some (.int x1), some (.int x2), some (.int x3)], [.int x2], (iq_sh l, q3.2, J, X))) (fun _ => rfl) ?_
        rcases iq_ite h with ⟨hc_, h⟩ | ⟨hc_, h⟩
        · refine iq_G_pos (c := x2 < 0) (σ1 := (48, [some (.ref 76), some (.int x1), some (.int x2), some (.int x3)], [], (iq_sh l, q3.2, J, X))) (fun _ => rfl) hc_ ?_
          exact iq_G_fg (L := [some (.ref 76), none, none, none]) (And.intro rfl trivial) (zM_fly_48_ok l q3.2 J X  h )
        · refine iq_G_neg (c := x2 < 0) (σ1 := (38, [some (.ref 76), some (.int x1), some (.int x2), some (.int x3)], [], (iq_sh l, q3.2, J, X))) (fun _ => rfl) hc_ ?_
          refine iq_G_go (k := 4) (σ' := (44, [some (.ref 76), some (.int x1), some (.int x2), some (.int x3)], [.int x1, .ref 98, .int x2], (iq_sh l, q3.2, J, X))) (fun _ => rfl) ?_
          obtain ⟨hc_, h⟩ := iq_itn h
          refine iq_G_pos (c := iq_in x1 206) (σ1 := (45, [some (.ref 76), some (.int x1), some (.int x2), some (.int x3)], [.int (q3.2 98 (Int32.toNatClampNeg x1)), .int x2], (iq_sh l, q3.2, J, X))) (fun _ => rfl) hc_ ?_
          rcases iq_ite h with ⟨hc_, h⟩ | ⟨hc_, h⟩
          · refine iq_G_pos (c := x2 ≤ (q3.2 98 (Int32.toNatClampNeg x1))) (σ1 := (54, [some (.ref 76), some (.int x1), some (.int x2), some (.int x3)], [], (iq_sh l, q3.2, J, X))) (fun _ => rfl) hc_ ?_
            refine iq_G_go (k := 1) (σ' := (55, [some (.ref 76), some (.int x1), some (.int x2), some (.int x3)], [.ref 76], (iq_sh l, q3.2, J, X))) (fun _ => rfl) ?_
            obtain ⟨q5, hq5, h⟩ := iq_bnd h
            refine iq_G_call (σ' := (58, [some (.ref 76), some (.int x1), some (.int x2), some (.int x3)], [], (iq_sh l, q5, J, X))) (fun _ => rfl) (zM_keeps_ok l  q3.2 J X hq5) rfl rfl ?_
            refine iq_G_go (k := 6) (σ' := (66, [some (.ref 76), some (.int x1), some (.int x2), some (.int x3)], [.int x3, .int x2, .int x1, .ref 98, .ref 76], (iq_sh l, q5, J, X))) (fun _ => rfl) ?_
            obtain ⟨q6, hq6, h⟩ := iq_bnd h
            refine iq_G_call (σ' := (69, [some (.ref 76), some (.int x1), some (.int x2), some (.int x3)], [], (iq_sh l, q6, J, X))) (fun _ => rfl) (zM_puts0_76_98_ok l x1 x2 x3 q5 J X hq6) rfl rfl ?_
            refine iq_G_go (k := 3) (σ' := (74, [some (.ref 76), some (.int x1), some (.int x2), some (.int x3)], [.int x1, .ref 98], (iq_sh l, q6, J, X))) (fun _ => rfl) ?_
            obtain ⟨hc_, h⟩ := iq_itn h
            refine iq_G_pos (c := iq_in x1 206) (σ1 := (75, [some (.ref 76), some (.int x1), some (.int x2), some (.int x3)], [.int (q6 98 (Int32.toNatClampNeg x1))], (iq_sh l, q6, J, X))) (fun _ => rfl) hc_ ?_
            cases h
            exact iq_G_ret (fun _ => rfl)
          · refine iq_G_neg (c := x2 ≤ (q3.2 98 (Int32.toNatClampNeg x1))) (σ1 := (48, [some (.ref 76), some (.int x1), some (.int x2), some (.int x3)], [], (iq_sh l, q3.2, J, X))) (fun _ => rfl) hc_ ?_
            exact iq_G_fg (L := [some (.ref 76), none, none, none]) (And.intro rfl trivial) (zM_fly_48_ok l q3.2 J X  h )
    · refine iq_G_neg (c := ¬ q3.1 = 0) (σ1 := (21, [some (.ref 76), some (.int x1), some (.int x2), some (.int x3)], [], (iq_sh l, q3.2, J, X))) (fun _ => rfl) hc_ ?_
      refine iq_G_go (k := 1) (σ' := (22, [some (.ref 76), some (.int x1), some (.int x2), some (.int x3)], [.int (0 : Int32)], (iq_sh l, q3.2, J, X))) (fun _ => rfl) ?_
      cases h
      exact iq_G_ret (fun _ => rfl)
set_option maxRecDepth 100000 in
theorem zO_add_ok (l : Nat)  (x1 : Int32) (x2 : Int32) (I : iq_I) (J : iq_J) (X : iq_X) {q : (Int32 ⊕ Nat) × iq_I × iq_X} (h : zO_add x1 x2 I X = some q) : iq_Cc 5 158 [.ref 1, .int x1, .int x2] (iq_sh l, I, J, X) ((ir_Ri q.1), (iq_sh l, q.2.1, J, q.2.2)) := by
  refine iq_Cc_of (L := [some (.ref 1), some (.int x1), some (.int x2), none]) rfl rfl ?_
  unfold zO_add at h
  refine iq_G_go (k := 2) (σ' := (2, [some (.ref 1), some (.int x1), some (.int x2), none], [.int x1, .ref 1], (iq_sh l, I, J, X))) (fun _ => rfl) ?_
  obtain ⟨q1, hq1, h⟩ := iq_bnd h
  have hC := (zO_needSaying_ok l x1 I J X hq1)
  rcases iq_smc h with ⟨a2, ha, h⟩ | ⟨k3, ha, h⟩
  · rw [ha] at hC
    refine iq_G_call (σ' := (5, [some (.ref 1), some (.int x1), some (.int x2), none], [], (iq_sh l, I, J, q1.2))) (fun _ => rfl) hC rfl rfl ?_
    refine iq_G_go (k := 2) (σ' := (7, [some (.ref 1), some (.int x1), some (.int x2), none], [.int x2, .ref 1], (iq_sh l, I, J, q1.2))) (fun _ => rfl) ?_
    obtain ⟨q4, hq4, h⟩ := iq_bnd h
    have hC := (zO_needWord_ok l x2 I J q1.2 hq4)
    rcases iq_smc h with ⟨a5, ha, h⟩ | ⟨k6, ha, h⟩
    · rw [ha] at hC
      refine iq_G_call (σ' := (10, [some (.ref 1), some (.int x1), some (.int x2), none], [], (iq_sh l, I, J, q4.2))) (fun _ => rfl) hC rfl rfl ?_
      refine iq_G_go (k := 5) (σ' := (19, [some (.ref 1), some (.int x1), some (.int x2), none], [.int x1, .ref 16, .ref 69], (iq_sh l, I, J, q4.2))) (fun _ => rfl) ?_
      obtain ⟨q7, hq7, h⟩ := iq_bnd h
      refine iq_G_call (σ' := (22, [some (.ref 1), some (.int x1), some (.int x2), none], [.int q7.1], (iq_sh l, q7.2, J, q4.2))) (fun _ => rfl) (zH_whatMayCome_69_16_ok l x1 I J q4.2 hq7) rfl rfl ?_
      refine iq_G_go (k := 4) (σ' := (26, [some (.ref 1), some (.int x1), some (.int x2), none], [.int ((q7.1 >>> (x2 &&& 31)) &&& (1 : Int32))], (iq_sh l, q7.2, J, q4.2))) (fun _ => rfl) ?_
      rcases iq_ite h with ⟨hc_, h⟩ | ⟨hc_, h⟩
      · refine iq_G_pos (c := ¬ ((q7.1 >>> (x2 &&& 31)) &&& (1 : Int32)) = 0) (σ1 := (34, [some (.ref 1), some (.int x1), some (.int x2), none], [], (iq_sh l, q7.2, J, q4.2))) (fun _ => rfl) hc_ ?_
        refine iq_G_go (k := 4) (σ' := (42, [some (.ref 1), some (.int x1), some (.int x2), none], [.int x1, .ref 18], (iq_sh l, q7.2, J, q4.2))) (fun _ => rfl) ?_
        obtain ⟨hc_, h⟩ := iq_itn h
        refine iq_G_pos (c := iq_in x1 5) (σ1 := (43, [some (.ref 1), some (.int x1), some (.int x2), none], [.int (q7.2 18 (Int32.toNatClampNeg x1))], (iq_sh l, q7.2, J, q4.2))) (fun _ => rfl) hc_ ?_
        refine iq_G_go (k := 6) (σ' := (51, [some (.ref 1), some (.int x1), some (.int x2), some (.int (q7.2 18 (Int32.toNatClampNeg x1)))], [.int x2, .int (q7.2 18 (Int32.toNatClampNeg x1)), .int x1, .ref 16], (iq_sh l, q7.2, J, q4.2))) (fun _ => rfl) ?_
        obtain ⟨q8, hq8, h⟩ := iq_bnd h
        refine iq_G_call (σ' := (54, [some (.ref 1), some (.int x1), some (.int x2), some (.int (q7.2 18 (Int32.toNatClampNeg x1)))], [], (iq_sh l, q8, J, q4.2))) (fun _ => rfl) (zG_putIn_16_ok l x1 (q7.2 18 (Int32.toNatClampNeg x1)) x2 q7.2 J q4.2 hq8) rfl rfl ?_
        refine iq_G_go (k := 7) (σ' := (65, [some (.ref 1), some (.int x1), some (.int x2), some (.int (q7.2 18 (Int32.toNatClampNeg x1)))], [.int x2, .int (q7.2 18 (Int32.toNatClampNeg x1)), .int x1, .int (0 : Int32), .ref 19], (iq_sh l, q8, J, q4.2))) (fun _ => rfl) ?_
        obtain ⟨q9, hq9, h⟩ := iq_bnd h
        refine iq_G_call (σ' := (68, [some (.ref 1), some (.int x1), some (.int x2), some (.int (q7.2 18 (Int32.toNatClampNeg x1)))], [], (iq_sh l, q9, J, q4.2))) (fun _ => rfl) (zA_keep_ok l (0 : Int32) x1 (q7.2 18 (Int32.toNatClampNeg x1)) x2 q8 J q4.2 hq9) rfl rfl ?_
        refine iq_G_go (k := 4) (σ' := (76, [some (.ref 1), some (.int x1), some (.int x2), some (.int (q7.2 18 (Int32.toNatClampNeg x1)))], [.int x1, .ref 18], (iq_sh l, q9, J, q4.2))) (fun _ => rfl) ?_
        obtain ⟨hc_, h⟩ := iq_itn h
        refine iq_G_pos (c := iq_in x1 5) (σ1 := (77, [some (.ref 1), some (.int x1), some (.int x2), some (.int (q7.2 18 (Int32.toNatClampNeg x1)))], [.int (q9 18 (Int32.toNatClampNeg x1))], (iq_sh l, q9, J, q4.2))) (fun _ => rfl) hc_ ?_
        cases h
        exact iq_G_ret (fun _ => rfl)
      · refine iq_G_neg (c := ¬ ((q7.1 >>> (x2 &&& 31)) &&& (1 : Int32)) = 0) (σ1 := (29, [some (.ref 1), some (.int x1), some (.int x2), none], [], (iq_sh l, q7.2, J, q4.2))) (fun _ => rfl) hc_ ?_
        refine iq_G_go (k := 1) (σ' := (30, [some (.ref 1), some (.int x1), some (.int x2), none], [.ref 1], (iq_sh l, q7.2, J, q4.2))) (fun _ => rfl) ?_
        obtain ⟨q10, hq10, h⟩ := iq_bnd h
        refine iq_G_call (σ' := (33, [some (.ref 1), some (.int x1), some (.int x2), none], [.int q10.1], (iq_sh l, q10.2, J, q4.2))) (fun _ => rfl) (zO_refuseAct_ok l  q7.2 J q4.2 hq10) rfl rfl ?_
        cases h
        exact iq_G_ret (fun _ => rfl)
    · rw [ha] at hC
      cases h
      exact iq_G_callx (fun _ => rfl) hC rfl rfl
  · rw [ha] at hC
    cases h
    exact iq_G_callx (fun _ => rfl) hC rfl rfl
set_option maxRecDepth 100000 in
theorem zL_add_ok (l : Nat)  (x1 : Int32) (x2 : Int32) (I : iq_I) (J : iq_J) (X : iq_X) {q : Int32 × iq_I × iq_J × iq_X} (h : zL_add x1 x2 I J X = some q) : iq_Cc 6 332 [.ref 1, .int x1, .int x2, .ref 114] (iq_sh l, I, J, X) (.inl (some (.int q.1)), (iq_sh l, q.2.1, q.2.2.1, q.2.2.2)) := by
  refine iq_Cc_of (L := [some (.ref 1), some (.int x1), some (.int x2), some (.ref 114), none]) rfl rfl ?_
  unfold zL_add at h
  refine iq_G_go (k := 5) (σ' := (5, [some (.ref 1), some (.int x1), some (.int x2), some (.ref 114), none], [.int x2, .int x1, .ref 1, .int (0 : Int32), .ref 114], (iq_sh l, I, J, X))) (fun _ => rfl) ?_
  obtain ⟨q1, hq1, h⟩ := iq_bnd h
  have hC := (zO_add_ok l x1 x2 I J X hq1)
  rcases iq_smc h with ⟨a2, ha, h⟩ | ⟨k3, ha, h⟩
  · rw [ha] at hC
    refine iq_G_call (σ' := (8, [some (.ref 1), some (.int x1), some (.int x2), some (.ref 114), none], [.int a2, .int (0 : Int32), .ref 114], (iq_sh l, q1.2.1, J, q1.2.2))) (fun _ => rfl) hC rfl rfl ?_
    refine iq_G_go (k := 1) (σ' := (9, [some (.ref 1), some (.int x1), some (.int x2), some (.ref 114), none], [.long (Int32.toInt64 a2), .int (0 : Int32), .ref 114], (iq_sh l, q1.2.1, J, q1.2.2))) (fun _ => rfl) ?_
    refine iq_G_go (k := 1) (σ' := (10, [some (.ref 1), some (.int x1), some (.int x2), some (.ref 114), none], [], (iq_sh l, q1.2.1, (iq_upJ J 114 0 (Int32.toInt64 a2)), q1.2.2))) (fun _ => rfl) ?_
    obtain ⟨J4, eJ4, h⟩ := ir_letG h
    rw [← eJ4]
    clear eJ4
    refine iq_G_go (k := 2) (σ' := (18, [some (.ref 1), some (.int x1), some (.int x2), some (.ref 114), none], [.int (0 : Int32)], (iq_sh l, q1.2.1, J4, q1.2.2))) (fun _ => rfl) ?_
    cases h
    exact iq_G_ret (fun _ => rfl)
  · rw [ha] at hC
    rcases iq_ite h with ⟨e, h⟩ | ⟨_, h⟩
    · subst e
      refine iq_G_call (σ' := (15, [some (.ref 1), some (.int x1), some (.int x2), some (.ref 114), none], [], (iq_sh l, q1.2.1, J, q1.2.2))) (fun _ => rfl) hC rfl rfl ?_
      refine iq_G_go (k := 1) (σ' := (16, [some (.ref 1), some (.int x1), some (.int x2), some (.ref 114), none], [.int (1 : Int32)], (iq_sh l, q1.2.1, J, q1.2.2))) (fun _ => rfl) ?_
      cases h
      exact iq_G_ret (fun _ => rfl)
    · obtain ⟨e, h⟩ := iq_itn h
      cases h
set_option maxRecDepth 100000 in
theorem zM_add_ok (l : Nat)  (x1 : Int32) (x2 : Int32) (I : iq_I) (J : iq_J) (X : iq_X) {q : Int32 × iq_I} (h : zM_add x1 x2 I = some q) : iq_Cc 5 266 [.ref 76, .int x1, .int x2] (iq_sh l, I, J, X) (.inl (some (.int q.1)), (iq_sh l, q.2, J, X)) := by
  refine iq_Cc_of (L := [some (.ref 76), some (.int x1), some (.int x2)]) rfl rfl ?_
  unfold zM_add at h
  refine iq_G_go (k := 2) (σ' := (2, [some (.ref 76), some (.int x1), some (.int x2)], [.int (0 : Int32), .ref 76], (iq_sh l, I, J, X))) (fun _ => rfl) ?_
  refine iq_G_go (k := 1) (σ' := (5, [some (.ref 76), some (.int x1), some (.int x2)], [], (iq_sh l, (iq_upI I 76 0 (0 : Int32)), J, X))) (fun _ => rfl) ?_
  obtain ⟨I1, eI1, h⟩ := ir_letG h
  rw [← eI1]
  clear eI1
  refine iq_G_go (k := 2) (σ' := (7, [some (.ref 76), some (.int x1), some (.int x2)], [.int x1, .ref 76], (iq_sh l, I1, J, X))) (fun _ => rfl) ?_
  obtain ⟨q2, hq2, h⟩ := iq_bnd h
  refine iq_G_call (σ' := (10, [some (.ref 76), some (.int x1), some (.int x2)], [.int q2.1], (iq_sh l, q2.2, J, X))) (fun _ => rfl) (zM_isSaying_ok l x1 I1 J X hq2) rfl rfl ?_
  rcases iq_ite h with ⟨hc_, h⟩ | ⟨hc_, h⟩
  · refine iq_G_pos (c := q2.1 = 0) (σ1 := (21, [some (.ref 76), some (.int x1), some (.int x2)], [], (iq_sh l, q2.2, J, X))) (fun _ => rfl) hc_ ?_
    refine iq_G_go (k := 1) (σ' := (22, [some (.ref 76), some (.int x1), some (.int x2)], [.int (0 : Int32)], (iq_sh l, q2.2, J, X))) (fun _ => rfl) ?_
    cases h
    exact iq_G_ret (fun _ => rfl)
  · refine iq_G_neg (c := q2.1 = 0) (σ1 := (13, [some (.ref 76), some (.int x1), some (.int x2)], [], (iq_sh l, q2.2, J, X))) (fun _ => rfl) hc_ ?_
    refine iq_G_go (k := 2) (σ' := (15, [some (.ref 76), some (.int x1), some (.int x2)], [.int x2, .ref 76], (iq_sh l, q2.2, J, X))) (fun _ => rfl) ?_
    obtain ⟨q3, hq3, h⟩ := iq_bnd h
    refine iq_G_call (σ' := (18, [some (.ref 76), some (.int x1), some (.int x2)], [.int q3.1], (iq_sh l, q3.2, J, X))) (fun _ => rfl) (zM_isWord_ok l x2 q2.2 J X hq3) rfl rfl ?_
    rcases iq_ite h with ⟨hc_, h⟩ | ⟨hc_, h⟩
    · refine iq_G_pos (c := ¬ q3.1 = 0) (σ1 := (23, [some (.ref 76), some (.int x1), some (.int x2)], [], (iq_sh l, q3.2, J, X))) (fun _ => rfl) hc_ ?_
      refine iq_G_go (k := 8) (σ' := (35, [some (.ref 76), some (.int x1), some (.int x2)], [.int x1, .ref 98, .ref 76, .int x1, .ref 98, .ref 76], (iq_sh l, q3.2, J, X))) (fun _ => rfl) ?_
      obtain ⟨q4, hq4, h⟩ := iq_bnd h
      refine iq_G_call (σ' := (38, [some (.ref 76), some (.int x1), some (.int x2)], [.int q4, .int x1, .ref 98, .ref 76], (iq_sh l, q3.2, J, X))) (fun _ => rfl) (zM_stateNow_76_98_ok l x1 q3.2 J X hq4) rfl rfl ?_
      refine iq_G_go (k := 1) (σ' := (39, [some (.ref 76), some (.int x1), some (.int x2)], [.int x2, .int q4, .int x1, .ref 98, .ref 76], (iq_sh l, q3.2, J, X))) (fun _ => rfl) ?_
      obtain ⟨q5, hq5, h⟩ := iq_bnd h
      refine iq_G_call (σ' := (42, [some (.ref 76), some (.int x1), some (.int x2)], [.int q5.1], (iq_sh l, q5.2, J, X))) (fun _ => rfl) (zM_mayCome_76_98_ok l x1 q4 x2 q3.2 J X hq5) rfl rfl ?_
      rcases iq_ite h with ⟨hc_, h⟩ | ⟨hc_, h⟩
      · refine iq_G_pos (c := ¬ q5.1 = 0) (σ1 := (51, [some (.ref 76), some (.int x1), some (.int x2)], [], (iq_sh l, q5.2, J, X))) (fun _ => rfl) hc_ ?_
        refine iq_G_go (k := 1) (σ' := (52, [some (.ref 76), some (.int x1), some (.int x2)], [.ref 76], (iq_sh l, q5.2, J, X))) (fun _ => rfl) ?_
        obtain ⟨q6, hq6, h⟩ := iq_bnd h
        refine iq_G_call (σ' := (55, [some (.ref 76), some (.int x1), some (.int x2)], [], (iq_sh l, q6, J, X))) (fun _ => rfl) (zM_keeps_ok l  q5.2 J X hq6) rfl rfl ?_
        refine iq_G_go (k := 7) (σ' := (66, [some (.ref 76), some (.int x1), some (.int x2)], [.int x1, .ref 98, .int x1, .ref 98, .ref 76], (iq_sh l, q6, J, X))) (fun _ => rfl) ?_
        obtain ⟨hc_, h⟩ := iq_itn h
        refine iq_G_pos (c := iq_in x1 206) (σ1 := (67, [some (.ref 76), some (.int x1), some (.int x2)], [.int (q6 98 (Int32.toNatClampNeg x1)), .int x1, .ref 98, .ref 76], (iq_sh l, q6, J, X))) (fun _ => rfl) hc_ ?_
        refine iq_G_go (k := 1) (σ' := (68, [some (.ref 76), some (.int x1), some (.int x2)], [.int x2, .int (q6 98 (Int32.toNatClampNeg x1)), .int x1, .ref 98, .ref 76], (iq_sh l, q6, J, X))) (fun _ => rfl) ?_
        obtain ⟨q7, hq7, h⟩ := iq_bnd h
        refine iq_G_call (σ' := (71, [some (.ref 76), some (.int x1), some (.int x2)], [], (iq_sh l, q7, J, X))) (fun _ => rfl) (zM_puts0_76_98_ok l x1 (q6 98 (Int32.toNatClampNeg x1)) x2 q6 J X hq7) rfl rfl ?_
        refine iq_G_go (k := 3) (σ' := (76, [some (.ref 76), some (.int x1), some (.int x2)], [.int x1, .ref 98], (iq_sh l, q7, J, X))) (fun _ => rfl) ?_
        obtain ⟨hc_, h⟩ := iq_itn h
        refine iq_G_pos (c := iq_in x1 206) (σ1 := (77, [some (.ref 76), some (.int x1), some (.int x2)], [.int (q7 98 (Int32.toNatClampNeg x1))], (iq_sh l, q7, J, X))) (fun _ => rfl) hc_ ?_
        cases h
        exact iq_G_ret (fun _ => rfl)
      · refine iq_G_neg (c := ¬ q5.1 = 0) (σ1 := (45, [some (.ref 76), some (.int x1), some (.int x2)], [], (iq_sh l, q5.2, J, X))) (fun _ => rfl) hc_ ?_
        refine iq_G_go (k := 2) (σ' := (47, [some (.ref 76), some (.int x1), some (.int x2)], [.int (1 : Int32), .ref 76], (iq_sh l, q5.2, J, X))) (fun _ => rfl) ?_
        obtain ⟨q8, hq8, h⟩ := iq_bnd h
        refine iq_G_call (σ' := (50, [some (.ref 76), some (.int x1), some (.int x2)], [.int q8.1], (iq_sh l, q8.2, J, X))) (fun _ => rfl) (zM_refuses_ok l (1 : Int32) q5.2 J X hq8) rfl rfl ?_
        cases h
        exact iq_G_ret (fun _ => rfl)
    · refine iq_G_neg (c := ¬ q3.1 = 0) (σ1 := (21, [some (.ref 76), some (.int x1), some (.int x2)], [], (iq_sh l, q3.2, J, X))) (fun _ => rfl) hc_ ?_
      refine iq_G_go (k := 1) (σ' := (22, [some (.ref 76), some (.int x1), some (.int x2)], [.int (0 : Int32)], (iq_sh l, q3.2, J, X))) (fun _ => rfl) ?_
      cases h
      exact iq_G_ret (fun _ => rfl)
set_option maxRecDepth 100000 in
theorem zO_may_ok (l : Nat)  (x1 : Int32) (I : iq_I) (J : iq_J) (X : iq_X) {q : (Int32 ⊕ Nat) × iq_I × iq_X} (h : zO_may x1 I X = some q) : iq_Cc 5 157 [.ref 1, .int x1] (iq_sh l, I, J, X) ((ir_Ri q.1), (iq_sh l, q.2.1, J, q.2.2)) := by
  refine iq_Cc_of (L := [some (.ref 1), some (.int x1)]) rfl rfl ?_
  unfold zO_may at h
  refine iq_G_go (k := 2) (σ' := (2, [some (.ref 1), some (.int x1)], [.int x1, .ref 1], (iq_sh l, I, J, X))) (fun _ => rfl) ?_
  obtain ⟨q1, hq1, h⟩ := iq_bnd h
  have hC := (zO_needSaying_ok l x1 I J X hq1)
  rcases iq_smc h with ⟨a2, ha, h⟩ | ⟨k3, ha, h⟩
  · rw [ha] at hC
    refine iq_G_call (σ' := (5, [some (.ref 1), some (.int x1)], [], (iq_sh l, I, J, q1.2))) (fun _ => rfl) hC rfl rfl ?_
    refine iq_G_go (k := 5) (σ' := (14, [some (.ref 1), some (.int x1)], [.int x1, .ref 16, .ref 69], (iq_sh l, I, J, q1.2))) (fun _ => rfl) ?_
    obtain ⟨q4, hq4, h⟩ := iq_bnd h
    refine iq_G_call (σ' := (17, [some (.ref 1), some (.int x1)], [.int q4.1], (iq_sh l, q4.2, J, q1.2))) (fun _ => rfl) (zH_whatMayCome_69_16_ok l x1 I J q1.2 hq4) rfl rfl ?_
    cases h
    exact iq_G_ret (fun _ => rfl)
  · rw [ha] at hC
    cases h
    exact iq_G_callx (fun _ => rfl) hC rfl rfl
set_option maxRecDepth 100000 in
theorem zL_may_ok (l : Nat)  (x1 : Int32) (I : iq_I) (J : iq_J) (X : iq_X) {q : Int32 × iq_I × iq_J × iq_X} (h : zL_may x1 I J X = some q) : iq_Cc 6 331 [.ref 1, .int x1, .ref 114] (iq_sh l, I, J, X) (.inl (some (.int q.1)), (iq_sh l, q.2.1, q.2.2.1, q.2.2.2)) := by
  refine iq_Cc_of (L := [some (.ref 1), some (.int x1), some (.ref 114), none]) rfl rfl ?_
  unfold zL_may at h
  refine iq_G_go (k := 4) (σ' := (4, [some (.ref 1), some (.int x1), some (.ref 114), none], [.int x1, .ref 1, .int (0 : Int32), .ref 114], (iq_sh l, I, J, X))) (fun _ => rfl) ?_
  obtain ⟨q1, hq1, h⟩ := iq_bnd h
  have hC := (zO_may_ok l x1 I J X hq1)
  rcases iq_smc h with ⟨a2, ha, h⟩ | ⟨k3, ha, h⟩
  · rw [ha] at hC
    refine iq_G_call (σ' := (7, [some (.ref 1), some (.int x1), some (.ref 114), none], [.int a2, .int (0 : Int32), .ref 114], (iq_sh l, q1.2.1, J, q1.2.2))) (fun _ => rfl) hC rfl rfl ?_
    refine iq_G_go (k := 1) (σ' := (8, [some (.ref 1), some (.int x1), some (.ref 114), none], [.long (Int32.toInt64 a2), .int (0 : Int32), .ref 114], (iq_sh l, q1.2.1, J, q1.2.2))) (fun _ => rfl) ?_
    refine iq_G_go (k := 1) (σ' := (9, [some (.ref 1), some (.int x1), some (.ref 114), none], [], (iq_sh l, q1.2.1, (iq_upJ J 114 0 (Int32.toInt64 a2)), q1.2.2))) (fun _ => rfl) ?_
    obtain ⟨J4, eJ4, h⟩ := ir_letG h
    rw [← eJ4]
    clear eJ4
    refine iq_G_go (k := 2) (σ' := (16, [some (.ref 1), some (.int x1), some (.ref 114), none], [.int (0 : Int32)], (iq_sh l, q1.2.1, J4, q1.2.2))) (fun _ => rfl) ?_
    cases h
    exact iq_G_ret (fun _ => rfl)
  · rw [ha] at hC
    rcases iq_ite h with ⟨e, h⟩ | ⟨_, h⟩
    · subst e
      refine iq_G_call (σ' := (13, [some (.ref 1), some (.int x1), some (.ref 114), none], [], (iq_sh l, q1.2.1, J, q1.2.2))) (fun _ => rfl) hC rfl rfl ?_
      refine iq_G_go (k := 1) (σ' := (14, [some (.ref 1), some (.int x1), some (.ref 114), none], [.int (1 : Int32)], (iq_sh l, q1.2.1, J, q1.2.2))) (fun _ => rfl) ?_
      cases h
      exact iq_G_ret (fun _ => rfl)
    · obtain ⟨e, h⟩ := iq_itn h
      cases h
set_option maxRecDepth 100000 in
theorem zM_may_l30_bok (l : Nat)  (x1 : Int32) (x2 : Int32) (J : iq_J) (X : iq_X) (x3 : Int32) (x4 : Int32) (I : iq_I) {q : (Int32 × Int32 × iq_I) ⊕ (Int32 × iq_I)} (h : zM_may_l30_b x1 x2 x3 x4 I = some q) (r : iq_R × iq_M) (hc : ∀ v, q = .inl v → iq_Gg 4 264 (30, [some (.ref 76), some (.int x1), some (.int x2), some (.int v.1), some (.int v.2.1)], [], (iq_sh l, v.2.2, J, X)) r) (hx : ∀ w, q = .inr w → iq_Gg 4 264 (71, [none, none, none, some (.int w.1), none], [], (iq_sh l, w.2, J, X)) r) : iq_Gg 4 264 (30, [some (.ref 76), some (.int x1), some (.int x2), some (.int x3), some (.int x4)], [], (iq_sh l, I, J, X)) r := by
  unfold zM_may_l30_b at h
  refine iq_G_go (k := 3) (σ' := (36, [some (.ref 76), some (.int x1), some (.int x2), some (.int x3), some (.int x4)], [.int (I 76 2), .int x4], (iq_sh l, I, J, X))) (fun _ => rfl) ?_
  rcases iq_ite h with ⟨hc_, h⟩ | ⟨hc_, h⟩
  · refine iq_G_pos (c := (I 76 2) ≤ x4) (σ1 := (71, [some (.ref 76), some (.int x1), some (.int x2), some (.int x3), some (.int x4)], [], (iq_sh l, I, J, X))) (fun _ => rfl) hc_ ?_
    cases h
    exact iq_G_fg (L := [none, none, none, some (.int x3), none]) (And.intro rfl trivial) (hx (x3, I) rfl)
  · refine iq_G_neg (c := (I 76 2) ≤ x4) (σ1 := (39, [some (.ref 76), some (.int x1), some (.int x2), some (.int x3), some (.int x4)], [], (iq_sh l, I, J, X))) (fun _ => rfl) hc_ ?_
    refine iq_G_go (k := 7) (σ' := (49, [some (.ref 76), some (.int x1), some (.int x2), some (.int x3), some (.int x4)], [.int x4, .int x2, .int x1, .ref 98, .ref 76, .int x3], (iq_sh l, I, J, X))) (fun _ => rfl) ?_
    obtain ⟨q4, hq4, h⟩ := iq_bnd h
    refine iq_G_call (σ' := (52, [some (.ref 76), some (.int x1), some (.int x2), some (.int x3), some (.int x4)], [.int q4.1, .int x3], (iq_sh l, q4.2, J, X))) (fun _ => rfl) (zM_mayCome_76_98_ok l x1 x2 x4 I J X hq4) rfl rfl ?_
    rcases iq_ite h with ⟨hc_, h⟩ | ⟨hc_, h⟩
    · refine iq_G_pos (c := q4.1 = 0) (σ1 := (62, [some (.ref 76), some (.int x1), some (.int x2), some (.int x3), some (.int x4)], [.int x3], (iq_sh l, q4.2, J, X))) (fun _ => rfl) hc_ ?_
      refine iq_G_go (k := 5) (σ' := (30, [some (.ref 76), some (.int x1), some (.int x2), some (.int (x3 ||| (0 : Int32))), some (.int (x4 + (1 : Int32)))], [], (iq_sh l, q4.2, J, X))) (fun _ => rfl) ?_
      cases h
      exact iq_G_fg (L := [some (.ref 76), some (.int x1), some (.int x2), some (.int (x3 ||| (0 : Int32))), some (.int (x4 + (1 : Int32)))]) (And.intro rfl (And.intro rfl (And.intro rfl (And.intro rfl (And.intro rfl trivial))))) (hc ((x3 ||| (0 : Int32)), (x4 + (1 : Int32)), q4.2) rfl)
    · refine iq_G_neg (c := q4.1 = 0) (σ1 := (55, [some (.ref 76), some (.int x1), some (.int x2), some (.int x3), some (.int x4)], [.int x3], (iq_sh l, q4.2, J, X))) (fun _ => rfl) hc_ ?_
      refine iq_G_go (k := 8) (σ' := (30, [some (.ref 76), some (.int x1), some (.int x2), some (.int (x3 ||| ((1 : Int32) <<< (x4 &&& 31)))), some (.int (x4 + (1 : Int32)))], [], (iq_sh l, q4.2, J, X))) (fun _ => rfl) ?_
      cases h
      exact iq_G_fg (L := [some (.ref 76), some (.int x1), some (.int x2), some (.int (x3 ||| ((1 : Int32) <<< (x4 &&& 31)))), some (.int (x4 + (1 : Int32)))]) (And.intro rfl (And.intro rfl (And.intro rfl (And.intro rfl (And.intro rfl trivial))))) (hc ((x3 ||| ((1 : Int32) <<< (x4 &&& 31))), (x4 + (1 : Int32)), q4.2) rfl)
set_option maxRecDepth 100000 in
theorem zM_may_l30_ok (l : Nat)  (x1 : Int32) (x2 : Int32) (J : iq_J) (X : iq_X) {n : Nat} {v : Int32 × Int32 × iq_I} {w : Int32 × iq_I} (h : zM_may_l30 x1 x2 n v = some w) (r : iq_R × iq_M) (hq : iq_Gg 4 264 (71, [none, none, none, some (.int w.1), none], [], (iq_sh l, w.2, J, X)) r) : iq_Gg 4 264 (30, [some (.ref 76), some (.int x1), some (.int x2), some (.int v.1), some (.int v.2.1)], [], (iq_sh l, v.2.2, J, X)) r :=
  iq_lp_ok (σ := fun v => (30, [some (.ref 76), some (.int x1), some (.int x2), some (.int v.1), some (.int v.2.1)], [], (iq_sh l, v.2.2, J, X))) (Q := fun w r => iq_Gg 4 264 (71, [none, none, none, some (.int w.1), none], [], (iq_sh l, w.2, J, X)) r) (fun v q hv r h1 h2 => zM_may_l30_bok l x1 x2 J X v.1 v.2.1 v.2.2 hv r h1 h2) h r hq
set_option maxRecDepth 100000 in
theorem zM_may_ok (l : Nat)  (x1 : Int32) (I : iq_I) (J : iq_J) (X : iq_X) {q : Int32 × iq_I} (h : zM_may x1 I = some q) : iq_Cc 5 264 [.ref 76, .int x1] (iq_sh l, I, J, X) (.inl (some (.int q.1)), (iq_sh l, q.2, J, X)) := by
  refine iq_Cc_of (L := [some (.ref 76), some (.int x1), none, none, none]) rfl rfl ?_
  unfold zM_may at h
  refine iq_G_go (k := 2) (σ' := (2, [some (.ref 76), some (.int x1), none, none, none], [.int (0 : Int32), .ref 76], (iq_sh l, I, J, X))) (fun _ => rfl) ?_
  refine iq_G_go (k := 1) (σ' := (5, [some (.ref 76), some (.int x1), none, none, none], [], (iq_sh l, (iq_upI I 76 0 (0 : Int32)), J, X))) (fun _ => rfl) ?_
  obtain ⟨I1, eI1, h⟩ := ir_letG h
  rw [← eI1]
  clear eI1
  refine iq_G_go (k := 2) (σ' := (7, [some (.ref 76), some (.int x1), none, none, none], [.int x1, .ref 76], (iq_sh l, I1, J, X))) (fun _ => rfl) ?_
  obtain ⟨q2, hq2, h⟩ := iq_bnd h
  refine iq_G_call (σ' := (10, [some (.ref 76), some (.int x1), none, none, none], [.int q2.1], (iq_sh l, q2.2, J, X))) (fun _ => rfl) (zM_isSaying_ok l x1 I1 J X hq2) rfl rfl ?_
  rcases iq_ite h with ⟨hc_, h⟩ | ⟨hc_, h⟩
  · refine iq_G_pos (c := ¬ q2.1 = 0) (σ1 := (15, [some (.ref 76), some (.int x1), none, none, none], [], (iq_sh l, q2.2, J, X))) (fun _ => rfl) hc_ ?_
    refine iq_G_go (k := 4) (σ' := (21, [some (.ref 76), some (.int x1), none, none, none], [.int x1, .ref 98, .ref 76], (iq_sh l, q2.2, J, X))) (fun _ => rfl) ?_
    obtain ⟨q3, hq3, h⟩ := iq_bnd h
    refine iq_G_call (σ' := (24, [some (.ref 76), some (.int x1), none, none, none], [.int q3], (iq_sh l, q2.2, J, X))) (fun _ => rfl) (zM_stateNow_76_98_ok l x1 q2.2 J X hq3) rfl rfl ?_
    refine iq_G_go (k := 5) (σ' := (30, [some (.ref 76), some (.int x1), some (.int q3), some (.int (0 : Int32)), some (.int (0 : Int32))], [], (iq_sh l, q2.2, J, X))) (fun _ => rfl) ?_
    obtain ⟨w5, hw5, h⟩ := iq_bnd h
    refine iq_G_fg (L := [some (.ref 76), some (.int x1), some (.int q3), some (.int (0 : Int32)), some (.int (0 : Int32))]) (And.intro rfl (And.intro rfl (And.intro rfl (And.intro rfl (And.intro rfl trivial))))) ?_
    refine zM_may_l30_ok l x1 q3 J X hw5 _ ?_
    show iq_Gg 4 264 (71, [none, none, none, some (.int w5.1), none], [], (iq_sh l, w5.2, J, X)) _
    refine iq_G_go (k := 1) (σ' := (72, [none, none, none, some (.int w5.1), none], [.int w5.1], (iq_sh l, w5.2, J, X))) (fun _ => rfl) ?_
    cases h
    exact iq_G_ret (fun _ => rfl)
  · refine iq_G_neg (c := ¬ q2.1 = 0) (σ1 := (13, [some (.ref 76), some (.int x1), none, none, none], [], (iq_sh l, q2.2, J, X))) (fun _ => rfl) hc_ ?_
    refine iq_G_go (k := 1) (σ' := (14, [some (.ref 76), some (.int x1), none, none, none], [.int (0 : Int32)], (iq_sh l, q2.2, J, X))) (fun _ => rfl) ?_
    cases h
    exact iq_G_ret (fun _ => rfl)
set_option maxRecDepth 100000 in
theorem zO_saying_ok (l : Nat)  (x1 : Int32) (x2 : Int32) (I : iq_I) (J : iq_J) (X : iq_X) {q : (Int32 ⊕ Nat) × iq_X} (h : zO_saying x1 x2 I X = some q) : iq_Cc 4 156 [.ref 1, .int x1, .int x2] (iq_sh l, I, J, X) ((ir_Ri q.1), (iq_sh l, I, J, q.2)) := by
  refine iq_Cc_of (L := [some (.ref 1), some (.int x1), some (.int x2)]) rfl rfl ?_
  unfold zO_saying at h
  refine iq_G_go (k := 2) (σ' := (2, [some (.ref 1), some (.int x1), some (.int x2)], [.int x1, .ref 1], (iq_sh l, I, J, X))) (fun _ => rfl) ?_
  obtain ⟨q1, hq1, h⟩ := iq_bnd h
  have hC := (zO_needSaying_ok l x1 I J X hq1)
  rcases iq_smc h with ⟨a2, ha, h⟩ | ⟨k3, ha, h⟩
  · rw [ha] at hC
    refine iq_G_call (σ' := (5, [some (.ref 1), some (.int x1), some (.int x2)], [], (iq_sh l, I, J, q1.2))) (fun _ => rfl) hC rfl rfl ?_
    refine iq_G_go (k := 2) (σ' := (7, [some (.ref 1), some (.int x1), some (.int x2)], [.int (-1 : Int32), .int x2], (iq_sh l, I, J, q1.2))) (fun _ => rfl) ?_
    rcases iq_ite h with ⟨hc_, h⟩ | ⟨hc_, h⟩
    · refine iq_G_pos (c := ¬ x2 = (-1 : Int32)) (σ1 := (20, [some (.ref 1), some (.int x1), some (.int x2)], [], (iq_sh l, I, J, q1.2))) (fun _ => rfl) hc_ ?_
      refine iq_G_go (k := 2) (σ' := (23, [some (.ref 1), some (.int x1), some (.int x2)], [.int (-2 : Int32), .int x2], (iq_sh l, I, J, q1.2))) (fun _ => rfl) ?_
      rcases iq_ite h with ⟨hc_, h⟩ | ⟨hc_, h⟩
      · refine iq_G_pos (c := ¬ x2 = (-2 : Int32)) (σ1 := (39, [some (.ref 1), some (.int x1), some (.int x2)], [], (iq_sh l, I, J, q1.2))) (fun _ => rfl) hc_ ?_
        refine iq_G_go (k := 2) (σ' := (42, [some (.ref 1), some (.int x1), some (.int x2)], [.int (-3 : Int32), .int x2], (iq_sh l, I, J, q1.2))) (fun _ => rfl) ?_
        rcases iq_ite h with ⟨hc_, h⟩ | ⟨hc_, h⟩
        · refine iq_G_pos (c := ¬ x2 = (-3 : Int32)) (σ1 := (55, [some (.ref 1), some (.int x1), some (.int x2)], [], (iq_sh l, I, J, q1.2))) (fun _ => rfl) hc_ ?_
          refine iq_G_go (k := 3) (σ' := (58, [some (.ref 1), some (.int x1), some (.int x2)], [.int x2, .int x1, .ref 1], (iq_sh l, I, J, q1.2))) (fun _ => rfl) ?_
          obtain ⟨q4, hq4, h⟩ := iq_bnd h
          have hC := (zO_needPlace_ok l x1 x2 I J q1.2 hq4)
          rcases iq_smc h with ⟨a5, ha, h⟩ | ⟨k6, ha, h⟩
          · rw [ha] at hC
            refine iq_G_call (σ' := (61, [some (.ref 1), some (.int x1), some (.int x2)], [], (iq_sh l, I, J, q4.2))) (fun _ => rfl) hC rfl rfl ?_
            refine iq_G_go (k := 4) (σ' := (67, [some (.ref 1), some (.int x1), some (.int x2)], [.int x2, .int x1, .ref 16], (iq_sh l, I, J, q4.2))) (fun _ => rfl) ?_
            obtain ⟨q7, hq7, h⟩ := iq_bnd h
            refine iq_G_call (σ' := (70, [some (.ref 1), some (.int x1), some (.int x2)], [.int q7], (iq_sh l, I, J, q4.2))) (fun _ => rfl) (zG_wordAt_16_ok l x1 x2 I J q4.2 hq7) rfl rfl ?_
            cases h
            exact iq_G_ret (fun _ => rfl)
          · rw [ha] at hC
            cases h
            exact iq_G_callx (fun _ => rfl) hC rfl rfl
        · refine iq_G_neg (c := ¬ x2 = (-3 : Int32)) (σ1 := (45, [some (.ref 1), some (.int x1), some (.int x2)], [], (iq_sh l, I, J, q1.2))) (fun _ => rfl) hc_ ?_
          refine iq_G_go (k := 4) (σ' := (53, [some (.ref 1), some (.int x1), some (.int x2)], [.int x1, .ref 17], (iq_sh l, I, J, q1.2))) (fun _ => rfl) ?_
          obtain ⟨hc_, h⟩ := iq_itn h
          refine iq_G_pos (c := iq_in x1 5) (σ1 := (54, [some (.ref 1), some (.int x1), some (.int x2)], [.int (I 17 (Int32.toNatClampNeg x1))], (iq_sh l, I, J, q1.2))) (fun _ => rfl) hc_ ?_
          cases h
          exact iq_G_ret (fun _ => rfl)
      · refine iq_G_neg (c := ¬ x2 = (-2 : Int32)) (σ1 := (26, [some (.ref 1), some (.int x1), some (.int x2)], [], (iq_sh l, I, J, q1.2))) (fun _ => rfl) hc_ ?_
        refine iq_G_go (k := 5) (σ' := (35, [some (.ref 1), some (.int x1), some (.int x2)], [.int x1, .ref 16, .ref 4], (iq_sh l, I, J, q1.2))) (fun _ => rfl) ?_
        obtain ⟨q8, hq8, h⟩ := iq_bnd h
        refine iq_G_call (σ' := (38, [some (.ref 1), some (.int x1), some (.int x2)], [.int q8], (iq_sh l, I, J, q1.2))) (fun _ => rfl) (zU_stateOf_4_16_ok l x1 I J q1.2 hq8) rfl rfl ?_
        cases h
        exact iq_G_ret (fun _ => rfl)
    · refine iq_G_neg (c := ¬ x2 = (-1 : Int32)) (σ1 := (10, [some (.ref 1), some (.int x1), some (.int x2)], [], (iq_sh l, I, J, q1.2))) (fun _ => rfl) hc_ ?_
      refine iq_G_go (k := 4) (σ' := (18, [some (.ref 1), some (.int x1), some (.int x2)], [.int x1, .ref 18], (iq_sh l, I, J, q1.2))) (fun _ => rfl) ?_
      obtain ⟨hc_, h⟩ := iq_itn h
      refine iq_G_pos (c := iq_in x1 5) (σ1 := (19, [some (.ref 1), some (.int x1), some (.int x2)], [.int (I 18 (Int32.toNatClampNeg x1))], (iq_sh l, I, J, q1.2))) (fun _ => rfl) hc_ ?_
      cases h
      exact iq_G_ret (fun _ => rfl)
  · rw [ha] at hC
    cases h
    exact iq_G_callx (fun _ => rfl) hC rfl rfl
set_option maxRecDepth 100000 in
theorem zL_saying_ok (l : Nat)  (x1 : Int32) (x2 : Int32) (I : iq_I) (J : iq_J) (X : iq_X) {q : Int32 × iq_J × iq_X} (h : zL_saying x1 x2 I J X = some q) : iq_Cc 5 330 [.ref 1, .int x1, .int x2, .ref 114] (iq_sh l, I, J, X) (.inl (some (.int q.1)), (iq_sh l, I, q.2.1, q.2.2)) := by
  refine iq_Cc_of (L := [some (.ref 1), some (.int x1), some (.int x2), some (.ref 114), none]) rfl rfl ?_
  unfold zL_saying at h
  refine iq_G_go (k := 5) (σ' := (5, [some (.ref 1), some (.int x1), some (.int x2), some (.ref 114), none], [.int x2, .int x1, .ref 1, .int (0 : Int32), .ref 114], (iq_sh l, I, J, X))) (fun _ => rfl) ?_
  obtain ⟨q1, hq1, h⟩ := iq_bnd h
  have hC := (zO_saying_ok l x1 x2 I J X hq1)
  rcases iq_smc h with ⟨a2, ha, h⟩ | ⟨k3, ha, h⟩
  · rw [ha] at hC
    refine iq_G_call (σ' := (8, [some (.ref 1), some (.int x1), some (.int x2), some (.ref 114), none], [.int a2, .int (0 : Int32), .ref 114], (iq_sh l, I, J, q1.2))) (fun _ => rfl) hC rfl rfl ?_
    refine iq_G_go (k := 1) (σ' := (9, [some (.ref 1), some (.int x1), some (.int x2), some (.ref 114), none], [.long (Int32.toInt64 a2), .int (0 : Int32), .ref 114], (iq_sh l, I, J, q1.2))) (fun _ => rfl) ?_
    refine iq_G_go (k := 1) (σ' := (10, [some (.ref 1), some (.int x1), some (.int x2), some (.ref 114), none], [], (iq_sh l, I, (iq_upJ J 114 0 (Int32.toInt64 a2)), q1.2))) (fun _ => rfl) ?_
    obtain ⟨J4, eJ4, h⟩ := ir_letG h
    rw [← eJ4]
    clear eJ4
    refine iq_G_go (k := 2) (σ' := (18, [some (.ref 1), some (.int x1), some (.int x2), some (.ref 114), none], [.int (0 : Int32)], (iq_sh l, I, J4, q1.2))) (fun _ => rfl) ?_
    cases h
    exact iq_G_ret (fun _ => rfl)
  · rw [ha] at hC
    rcases iq_ite h with ⟨e, h⟩ | ⟨_, h⟩
    · subst e
      refine iq_G_call (σ' := (15, [some (.ref 1), some (.int x1), some (.int x2), some (.ref 114), none], [], (iq_sh l, I, J, q1.2))) (fun _ => rfl) hC rfl rfl ?_
      refine iq_G_go (k := 1) (σ' := (16, [some (.ref 1), some (.int x1), some (.int x2), some (.ref 114), none], [.int (1 : Int32)], (iq_sh l, I, J, q1.2))) (fun _ => rfl) ?_
      cases h
      exact iq_G_ret (fun _ => rfl)
    · obtain ⟨e, h⟩ := iq_itn h
      cases h
set_option maxRecDepth 100000 in
theorem zM_saying_35_ok (l : Nat)  (x1 : Int32) (x2 : Int32) (s1 : Int32) (I : iq_I) (J : iq_J) (X : iq_X)  {q : Int32 × iq_I} (h : zM_saying_35 x1 x2 s1 I = some q)  : iq_Gg 3 257 (35, [some (.ref 76), some (.int x1), some (.int x2)], [.int s1, .ref 76], (iq_sh l, I, J, X)) (.inl (some (.int q.1)), (iq_sh l, q.2, J, X)) := by
  unfold zM_saying_35 at h
  refine iq_G_go (k := 1) (σ' := (36, [some (.ref 76), some (.int x1), some (.int x2)], [.int (1 : Int32), .int s1, .ref 76], (iq_sh l, I, J, X))) (fun _ => rfl) ?_
  obtain ⟨q3, hq3, h⟩ := iq_bnd h
  refine iq_G_call (σ' := (39, [some (.ref 76), some (.int x1), some (.int x2)], [.int q3.1], (iq_sh l, q3.2, J, X))) (fun _ => rfl) (zM_right_ok l s1 (1 : Int32) I J X hq3) rfl rfl ?_
  rcases iq_ite h with ⟨hc_, h⟩ | ⟨hc_, h⟩
  · refine iq_G_pos (c := ¬ q3.1 = 0) (σ1 := (44, [some (.ref 76), some (.int x1), some (.int x2)], [], (iq_sh l, q3.2, J, X))) (fun _ => rfl) hc_ ?_
    refine iq_G_go (k := 2) (σ' := (46, [some (.ref 76), some (.int x1), some (.int x2)], [.int (-1 : Int32), .int x2], (iq_sh l, q3.2, J, X))) (fun _ => rfl) ?_
    rcases iq_ite h with ⟨hc_, h⟩ | ⟨hc_, h⟩
    · refine iq_G_pos (c := ¬ x2 = (-1 : Int32)) (σ1 := (58, [some (.ref 76), some (.int x1), some (.int x2)], [], (iq_sh l, q3.2, J, X))) (fun _ => rfl) hc_ ?_
      refine iq_G_go (k := 2) (σ' := (61, [some (.ref 76), some (.int x1), some (.int x2)], [.int (-2 : Int32), .int x2], (iq_sh l, q3.2, J, X))) (fun _ => rfl) ?_
      rcases iq_ite h with ⟨hc_, h⟩ | ⟨hc_, h⟩
      · refine iq_G_pos (c := ¬ x2 = (-2 : Int32)) (σ1 := (76, [some (.ref 76), some (.int x1), some (.int x2)], [], (iq_sh l, q3.2, J, X))) (fun _ => rfl) hc_ ?_
        refine iq_G_go (k := 2) (σ' := (79, [some (.ref 76), some (.int x1), some (.int x2)], [.int (-3 : Int32), .int x2], (iq_sh l, q3.2, J, X))) (fun _ => rfl) ?_
        rcases iq_ite h with ⟨hc_, h⟩ | ⟨hc_, h⟩
        · refine iq_G_pos (c := ¬ x2 = (-3 : Int32)) (σ1 := (91, [some (.ref 76), some (.int x1), some (.int x2)], [], (iq_sh l, q3.2, J, X))) (fun _ => rfl) hc_ ?_
          refine iq_G_go (k := 5) (σ' := (98, [some (.ref 76), some (.int x1), some (.int x2)], [.int x2, .int x1, .ref 98, .ref 76], (iq_sh l, q3.2, J, X))) (fun _ => rfl) ?_
          obtain ⟨q4, hq4, h⟩ := iq_bnd h
          refine iq_G_call (σ' := (101, [some (.ref 76), some (.int x1), some (.int x2)], [.int q4], (iq_sh l, q3.2, J, X))) (fun _ => rfl) (zM_wordAt_76_98_ok l x1 x2 q3.2 J X hq4) rfl rfl ?_
          cases h
          exact iq_G_ret (fun _ => rfl)
        · refine iq_G_neg (c := ¬ x2 = (-3 : Int32)) (σ1 := (82, [some (.ref 76), some (.int x1), some (.int x2)], [], (iq_sh l, q3.2, J, X))) (fun _ => rfl) hc_ ?_
          refine iq_G_go (k := 3) (σ' := (87, [some (.ref 76), some (.int x1), some (.int x2)], [.int x1, .ref 83], (iq_sh l, q3.2, J, X))) (fun _ => rfl) ?_
          obtain ⟨hc_, h⟩ := iq_itn h
          refine iq_G_pos (c := iq_in x1 5) (σ1 := (88, [some (.ref 76), some (.int x1), some (.int x2)], [.int (q3.2 83 (Int32.toNatClampNeg x1))], (iq_sh l, q3.2, J, X))) (fun _ => rfl) hc_ ?_
          refine iq_G_go (k := 1) (σ' := (101, [some (.ref 76), some (.int x1), some (.int x2)], [.int (q3.2 83 (Int32.toNatClampNeg x1))], (iq_sh l, q3.2, J, X))) (fun _ => rfl) ?_
          cases h
          exact iq_G_ret (fun _ => rfl)
      · refine iq_G_neg (c := ¬ x2 = (-2 : Int32)) (σ1 := (64, [some (.ref 76), some (.int x1), some (.int x2)], [], (iq_sh l, q3.2, J, X))) (fun _ => rfl) hc_ ?_
        refine iq_G_go (k := 4) (σ' := (70, [some (.ref 76), some (.int x1), some (.int x2)], [.int x1, .ref 98, .ref 76], (iq_sh l, q3.2, J, X))) (fun _ => rfl) ?_
        obtain ⟨q5, hq5, h⟩ := iq_bnd h
        refine iq_G_call (σ' := (73, [some (.ref 76), some (.int x1), some (.int x2)], [.int q5], (iq_sh l, q3.2, J, X))) (fun _ => rfl) (zM_stateNow_76_98_ok l x1 q3.2 J X hq5) rfl rfl ?_
        refine iq_G_go (k := 1) (σ' := (101, [some (.ref 76), some (.int x1), some (.int x2)], [.int q5], (iq_sh l, q3.2, J, X))) (fun _ => rfl) ?_
        cases h
        exact iq_G_ret (fun _ => rfl)
    · refine iq_G_neg (c := ¬ x2 = (-1 : Int32)) (σ1 := (49, [some (.ref 76), some (.int x1), some (.int x2)], [], (iq_sh l, q3.2, J, X))) (fun _ => rfl) hc_ ?_
      refine iq_G_go (k := 3) (σ' := (54, [some (.ref 76), some (.int x1), some (.int x2)], [.int x1, .ref 98], (iq_sh l, q3.2, J, X))) (fun _ => rfl) ?_
      obtain ⟨hc_, h⟩ := iq_itn h
      refine iq_G_pos (c := iq_in x1 206) (σ1 := (55, [some (.ref 76), some (.int x1), some (.int x2)], [.int (q3.2 98 (Int32.toNatClampNeg x1))], (iq_sh l, q3.2, J, X))) (fun _ => rfl) hc_ ?_
      refine iq_G_go (k := 1) (σ' := (101, [some (.ref 76), some (.int x1), some (.int x2)], [.int (q3.2 98 (Int32.toNatClampNeg x1))], (iq_sh l, q3.2, J, X))) (fun _ => rfl) ?_
      cases h
      exact iq_G_ret (fun _ => rfl)
  · refine iq_G_neg (c := ¬ q3.1 = 0) (σ1 := (42, [some (.ref 76), some (.int x1), some (.int x2)], [], (iq_sh l, q3.2, J, X))) (fun _ => rfl) hc_ ?_
    refine iq_G_go (k := 1) (σ' := (43, [some (.ref 76), some (.int x1), some (.int x2)], [.int (0 : Int32)], (iq_sh l, q3.2, J, X))) (fun _ => rfl) ?_
    cases h
    exact iq_G_ret (fun _ => rfl)
set_option maxRecDepth 100000 in
theorem zM_saying_34_ok (l : Nat)  (x1 : Int32) (x2 : Int32) (I : iq_I) (J : iq_J) (X : iq_X)  {q : Int32 × iq_I} (h : zM_saying_34 x1 x2 I = some q)  : iq_Gg 3 257 (34, [some (.ref 76), some (.int x1), some (.int x2)], [.ref 76], (iq_sh l, I, J, X)) (.inl (some (.int q.1)), (iq_sh l, q.2, J, X)) := by
  unfold zM_saying_34 at h
  refine iq_G_go (k := 1) (σ' := (35, [some (.ref 76), some (.int x1), some (.int x2)], [.int (0 : Int32), .ref 76], (iq_sh l, I, J, X))) (fun _ => rfl) ?_
  exact iq_G_fg (L := [some (.ref 76), some (.int x1), some (.int x2)]) (And.intro rfl (And.intro rfl (And.intro rfl trivial))) (zM_saying_35_ok l x1 x2 (0 : Int32) I J X  h )
set_option maxRecDepth 100000 in
theorem zM_saying_ok (l : Nat)  (x1 : Int32) (x2 : Int32) (I : iq_I) (J : iq_J) (X : iq_X) {q : Int32 × iq_I} (h : zM_saying x1 x2 I = some q) : iq_Cc 4 257 [.ref 76, .int x1, .int x2] (iq_sh l, I, J, X) (.inl (some (.int q.1)), (iq_sh l, q.2, J, X)) := by
  refine iq_Cc_of (L := [some (.ref 76), some (.int x1), some (.int x2)]) rfl rfl ?_
  unfold zM_saying at h
  refine iq_G_go (k := 2) (σ' := (2, [some (.ref 76), some (.int x1), some (.int x2)], [.int (0 : Int32), .ref 76], (iq_sh l, I, J, X))) (fun _ => rfl) ?_
  refine iq_G_go (k := 1) (σ' := (5, [some (.ref 76), some (.int x1), some (.int x2)], [], (iq_sh l, (iq_upI I 76 0 (0 : Int32)), J, X))) (fun _ => rfl) ?_
  obtain ⟨I1, eI1, h⟩ := ir_letG h
  rw [← eI1]
  clear eI1
  refine iq_G_go (k := 2) (σ' := (7, [some (.ref 76), some (.int x1), some (.int x2)], [.int x1, .ref 76], (iq_sh l, I1, J, X))) (fun _ => rfl) ?_
  obtain ⟨q2, hq2, h⟩ := iq_bnd h
  refine iq_G_call (σ' := (10, [some (.ref 76), some (.int x1), some (.int x2)], [.int q2.1], (iq_sh l, q2.2, J, X))) (fun _ => rfl) (zM_isSaying_ok l x1 I1 J X hq2) rfl rfl ?_
  rcases iq_ite h with ⟨hc_, h⟩ | ⟨hc_, h⟩
  · refine iq_G_pos (c := q2.1 = 0) (σ1 := (42, [some (.ref 76), some (.int x1), some (.int x2)], [], (iq_sh l, q2.2, J, X))) (fun _ => rfl) hc_ ?_
    refine iq_G_go (k := 1) (σ' := (43, [some (.ref 76), some (.int x1), some (.int x2)], [.int (0 : Int32)], (iq_sh l, q2.2, J, X))) (fun _ => rfl) ?_
    cases h
    exact iq_G_ret (fun _ => rfl)
  · refine iq_G_neg (c := q2.1 = 0) (σ1 := (13, [some (.ref 76), some (.int x1), some (.int x2)], [], (iq_sh l, q2.2, J, X))) (fun _ => rfl) hc_ ?_
    refine iq_G_go (k := 3) (σ' := (17, [some (.ref 76), some (.int x1), some (.int x2)], [.int (-3 : Int32), .int x2, .ref 76], (iq_sh l, q2.2, J, X))) (fun _ => rfl) ?_
    rcases iq_ite h with ⟨hc_, h⟩ | ⟨hc_, h⟩
    · refine iq_G_pos (c := x2 < (-3 : Int32)) (σ1 := (34, [some (.ref 76), some (.int x1), some (.int x2)], [.ref 76], (iq_sh l, q2.2, J, X))) (fun _ => rfl) hc_ ?_
      exact iq_G_fg (L := [some (.ref 76), some (.int x1), some (.int x2)]) (And.intro rfl (And.intro rfl (And.intro rfl trivial))) (zM_saying_34_ok l x1 x2 q2.2 J X  h )
    · refine iq_G_neg (c := x2 < (-3 : Int32)) (σ1 := (20, [some (.ref 76), some (.int x1), some (.int x2)], [.ref 76], (iq_sh l, q2.2, J, X))) (fun _ => rfl) hc_ ?_
      refine iq_G_go (k := 4) (σ' := (26, [some (.ref 76), some (.int x1), some (.int x2)], [.int x1, .ref 98, .int x2, .ref 76], (iq_sh l, q2.2, J, X))) (fun _ => rfl) ?_
      obtain ⟨hc_, h⟩ := iq_itn h
      refine iq_G_pos (c := iq_in x1 206) (σ1 := (27, [some (.ref 76), some (.int x1), some (.int x2)], [.int (q2.2 98 (Int32.toNatClampNeg x1)), .int x2, .ref 76], (iq_sh l, q2.2, J, X))) (fun _ => rfl) hc_ ?_
      rcases iq_ite h with ⟨hc_, h⟩ | ⟨hc_, h⟩
      · refine iq_G_pos (c := (q2.2 98 (Int32.toNatClampNeg x1)) ≤ x2) (σ1 := (34, [some (.ref 76), some (.int x1), some (.int x2)], [.ref 76], (iq_sh l, q2.2, J, X))) (fun _ => rfl) hc_ ?_
        exact iq_G_fg (L := [some (.ref 76), some (.int x1), some (.int x2)]) (And.intro rfl (And.intro rfl (And.intro rfl trivial))) (zM_saying_34_ok l x1 x2 q2.2 J X  h )
      · refine iq_G_neg (c := (q2.2 98 (Int32.toNatClampNeg x1)) ≤ x2) (σ1 := (30, [some (.ref 76), some (.int x1), some (.int x2)], [.ref 76], (iq_sh l, q2.2, J, X))) (fun _ => rfl) hc_ ?_
        refine iq_G_go (k := 2) (σ' := (35, [some (.ref 76), some (.int x1), some (.int x2)], [.int (1 : Int32), .ref 76], (iq_sh l, q2.2, J, X))) (fun _ => rfl) ?_
        exact iq_G_fg (L := [some (.ref 76), some (.int x1), some (.int x2)]) (And.intro rfl (And.intro rfl (And.intro rfl trivial))) (zM_saying_35_ok l x1 x2 (1 : Int32) q2.2 J X  h )
set_option maxRecDepth 100000 in
theorem zO_arc_ok (l : Nat)  (x1 : Int32) (x2 : Int32) (I : iq_I) (J : iq_J) (X : iq_X) {q : (Int32 ⊕ Nat) × iq_X} (h : zO_arc x1 x2 I X = some q) : iq_Cc 2 155 [.ref 1, .int x1, .int x2] (iq_sh l, I, J, X) ((ir_Ri q.1), (iq_sh l, I, J, q.2)) := by
  refine iq_Cc_of (L := [some (.ref 1), some (.int x1), some (.int x2)]) rfl rfl ?_
  unfold zO_arc at h
  refine iq_G_go (k := 2) (σ' := (2, [some (.ref 1), some (.int x1), some (.int x2)], [.int x1, .ref 1], (iq_sh l, I, J, X))) (fun _ => rfl) ?_
  obtain ⟨q1, hq1, h⟩ := iq_bnd h
  have hC := (zO_needState_ok l x1 I J X hq1)
  rcases iq_smc h with ⟨a2, ha, h⟩ | ⟨k3, ha, h⟩
  · rw [ha] at hC
    refine iq_G_call (σ' := (5, [some (.ref 1), some (.int x1), some (.int x2)], [], (iq_sh l, I, J, q1.2))) (fun _ => rfl) hC rfl rfl ?_
    refine iq_G_go (k := 2) (σ' := (7, [some (.ref 1), some (.int x1), some (.int x2)], [.int x2, .ref 1], (iq_sh l, I, J, q1.2))) (fun _ => rfl) ?_
    obtain ⟨q4, hq4, h⟩ := iq_bnd h
    have hC := (zO_needKind_ok l x2 I J q1.2 hq4)
    rcases iq_smc h with ⟨a5, ha, h⟩ | ⟨k6, ha, h⟩
    · rw [ha] at hC
      refine iq_G_call (σ' := (10, [some (.ref 1), some (.int x1), some (.int x2)], [], (iq_sh l, I, J, q4.2))) (fun _ => rfl) hC rfl rfl ?_
      refine iq_G_go (k := 4) (σ' := (16, [some (.ref 1), some (.int x1), some (.int x2)], [.int x2, .int x1, .ref 4], (iq_sh l, I, J, q4.2))) (fun _ => rfl) ?_
      obtain ⟨q7, hq7, h⟩ := iq_bnd h
      refine iq_G_call (σ' := (19, [some (.ref 1), some (.int x1), some (.int x2)], [.int q7], (iq_sh l, I, J, q4.2))) (fun _ => rfl) (zU_leadsBy_4_ok l x1 x2 I J q4.2 hq7) rfl rfl ?_
      cases h
      exact iq_G_ret (fun _ => rfl)
    · rw [ha] at hC
      cases h
      exact iq_G_callx (fun _ => rfl) hC rfl rfl
  · rw [ha] at hC
    cases h
    exact iq_G_callx (fun _ => rfl) hC rfl rfl
set_option maxRecDepth 100000 in
theorem zL_arc_ok (l : Nat)  (x1 : Int32) (x2 : Int32) (I : iq_I) (J : iq_J) (X : iq_X) {q : Int32 × iq_J × iq_X} (h : zL_arc x1 x2 I J X = some q) : iq_Cc 3 329 [.ref 1, .int x1, .int x2, .ref 114] (iq_sh l, I, J, X) (.inl (some (.int q.1)), (iq_sh l, I, q.2.1, q.2.2)) := by
  refine iq_Cc_of (L := [some (.ref 1), some (.int x1), some (.int x2), some (.ref 114), none]) rfl rfl ?_
  unfold zL_arc at h
  refine iq_G_go (k := 5) (σ' := (5, [some (.ref 1), some (.int x1), some (.int x2), some (.ref 114), none], [.int x2, .int x1, .ref 1, .int (0 : Int32), .ref 114], (iq_sh l, I, J, X))) (fun _ => rfl) ?_
  obtain ⟨q1, hq1, h⟩ := iq_bnd h
  have hC := (zO_arc_ok l x1 x2 I J X hq1)
  rcases iq_smc h with ⟨a2, ha, h⟩ | ⟨k3, ha, h⟩
  · rw [ha] at hC
    refine iq_G_call (σ' := (8, [some (.ref 1), some (.int x1), some (.int x2), some (.ref 114), none], [.int a2, .int (0 : Int32), .ref 114], (iq_sh l, I, J, q1.2))) (fun _ => rfl) hC rfl rfl ?_
    refine iq_G_go (k := 1) (σ' := (9, [some (.ref 1), some (.int x1), some (.int x2), some (.ref 114), none], [.long (Int32.toInt64 a2), .int (0 : Int32), .ref 114], (iq_sh l, I, J, q1.2))) (fun _ => rfl) ?_
    refine iq_G_go (k := 1) (σ' := (10, [some (.ref 1), some (.int x1), some (.int x2), some (.ref 114), none], [], (iq_sh l, I, (iq_upJ J 114 0 (Int32.toInt64 a2)), q1.2))) (fun _ => rfl) ?_
    obtain ⟨J4, eJ4, h⟩ := ir_letG h
    rw [← eJ4]
    clear eJ4
    refine iq_G_go (k := 2) (σ' := (18, [some (.ref 1), some (.int x1), some (.int x2), some (.ref 114), none], [.int (0 : Int32)], (iq_sh l, I, J4, q1.2))) (fun _ => rfl) ?_
    cases h
    exact iq_G_ret (fun _ => rfl)
  · rw [ha] at hC
    rcases iq_ite h with ⟨e, h⟩ | ⟨_, h⟩
    · subst e
      refine iq_G_call (σ' := (15, [some (.ref 1), some (.int x1), some (.int x2), some (.ref 114), none], [], (iq_sh l, I, J, q1.2))) (fun _ => rfl) hC rfl rfl ?_
      refine iq_G_go (k := 1) (σ' := (16, [some (.ref 1), some (.int x1), some (.int x2), some (.ref 114), none], [.int (1 : Int32)], (iq_sh l, I, J, q1.2))) (fun _ => rfl) ?_
      cases h
      exact iq_G_ret (fun _ => rfl)
    · obtain ⟨e, h⟩ := iq_itn h
      cases h
set_option maxRecDepth 100000 in
theorem zM_arc_ok (l : Nat)  (x1 : Int32) (x2 : Int32) (I : iq_I) (J : iq_J) (X : iq_X) {q : Int32 × iq_I} (h : zM_arc x1 x2 I = some q) : iq_Cc 3 256 [.ref 76, .int x1, .int x2] (iq_sh l, I, J, X) (.inl (some (.int q.1)), (iq_sh l, q.2, J, X)) := by
  refine iq_Cc_of (L := [some (.ref 76), some (.int x1), some (.int x2)]) rfl rfl ?_
  unfold zM_arc at h
  refine iq_G_go (k := 2) (σ' := (2, [some (.ref 76), some (.int x1), some (.int x2)], [.int (0 : Int32), .ref 76], (iq_sh l, I, J, X))) (fun _ => rfl) ?_
  refine iq_G_go (k := 1) (σ' := (5, [some (.ref 76), some (.int x1), some (.int x2)], [], (iq_sh l, (iq_upI I 76 0 (0 : Int32)), J, X))) (fun _ => rfl) ?_
  obtain ⟨I1, eI1, h⟩ := ir_letG h
  rw [← eI1]
  clear eI1
  refine iq_G_go (k := 2) (σ' := (7, [some (.ref 76), some (.int x1), some (.int x2)], [.int x1, .ref 76], (iq_sh l, I1, J, X))) (fun _ => rfl) ?_
  obtain ⟨q2, hq2, h⟩ := iq_bnd h
  refine iq_G_call (σ' := (10, [some (.ref 76), some (.int x1), some (.int x2)], [.int q2.1], (iq_sh l, q2.2, J, X))) (fun _ => rfl) (zM_isState_ok l x1 I1 J X hq2) rfl rfl ?_
  rcases iq_ite h with ⟨hc_, h⟩ | ⟨hc_, h⟩
  · refine iq_G_pos (c := q2.1 = 0) (σ1 := (37, [some (.ref 76), some (.int x1), some (.int x2)], [], (iq_sh l, q2.2, J, X))) (fun _ => rfl) hc_ ?_
    refine iq_G_go (k := 1) (σ' := (38, [some (.ref 76), some (.int x1), some (.int x2)], [.int (0 : Int32)], (iq_sh l, q2.2, J, X))) (fun _ => rfl) ?_
    cases h
    exact iq_G_ret (fun _ => rfl)
  · refine iq_G_neg (c := q2.1 = 0) (σ1 := (13, [some (.ref 76), some (.int x1), some (.int x2)], [], (iq_sh l, q2.2, J, X))) (fun _ => rfl) hc_ ?_
    refine iq_G_go (k := 3) (σ' := (17, [some (.ref 76), some (.int x1), some (.int x2)], [.int (7 : Int32), .int x2, .ref 76], (iq_sh l, q2.2, J, X))) (fun _ => rfl) ?_
    obtain ⟨q3, hq3, h⟩ := iq_bnd h
    refine iq_G_call (σ' := (20, [some (.ref 76), some (.int x1), some (.int x2)], [.int q3.1], (iq_sh l, q3.2, J, X))) (fun _ => rfl) (zM_isWhat_ok l x2 (7 : Int32) q2.2 J X hq3) rfl rfl ?_
    rcases iq_ite h with ⟨hc_, h⟩ | ⟨hc_, h⟩
    · refine iq_G_pos (c := q3.1 = 0) (σ1 := (37, [some (.ref 76), some (.int x1), some (.int x2)], [], (iq_sh l, q3.2, J, X))) (fun _ => rfl) hc_ ?_
      refine iq_G_go (k := 1) (σ' := (38, [some (.ref 76), some (.int x1), some (.int x2)], [.int (0 : Int32)], (iq_sh l, q3.2, J, X))) (fun _ => rfl) ?_
      cases h
      exact iq_G_ret (fun _ => rfl)
    · refine iq_G_neg (c := q3.1 = 0) (σ1 := (23, [some (.ref 76), some (.int x1), some (.int x2)], [], (iq_sh l, q3.2, J, X))) (fun _ => rfl) hc_ ?_
      refine iq_G_go (k := 7) (σ' := (33, [some (.ref 76), some (.int x1), some (.int x2)], [.int (((8 : Int32) * x1) + x2), .ref 80], (iq_sh l, q3.2, J, X))) (fun _ => rfl) ?_
      obtain ⟨hc_, h⟩ := iq_itn h
      refine iq_G_pos (c := iq_in (((8 : Int32) * x1) + x2) 80) (σ1 := (34, [some (.ref 76), some (.int x1), some (.int x2)], [.int (q3.2 80 (Int32.toNatClampNeg (((8 : Int32) * x1) + x2)))], (iq_sh l, q3.2, J, X))) (fun _ => rfl) hc_ ?_
      refine iq_G_go (k := 1) (σ' := (38, [some (.ref 76), some (.int x1), some (.int x2)], [.int (q3.2 80 (Int32.toNatClampNeg (((8 : Int32) * x1) + x2)))], (iq_sh l, q3.2, J, X))) (fun _ => rfl) ?_
      cases h
      exact iq_G_ret (fun _ => rfl)
set_option maxRecDepth 100000 in
theorem zO_kind_ok (l : Nat)  (x1 : Int32) (I : iq_I) (J : iq_J) (X : iq_X) {q : (Int32 ⊕ Nat) × iq_X} (h : zO_kind x1 I X = some q) : iq_Cc 2 154 [.ref 1, .int x1] (iq_sh l, I, J, X) ((ir_Ri q.1), (iq_sh l, I, J, q.2)) := by
  refine iq_Cc_of (L := [some (.ref 1), some (.int x1)]) rfl rfl ?_
  unfold zO_kind at h
  refine iq_G_go (k := 2) (σ' := (2, [some (.ref 1), some (.int x1)], [.int x1, .ref 1], (iq_sh l, I, J, X))) (fun _ => rfl) ?_
  obtain ⟨q1, hq1, h⟩ := iq_bnd h
  have hC := (zO_needWord_ok l x1 I J X hq1)
  rcases iq_smc h with ⟨a2, ha, h⟩ | ⟨k3, ha, h⟩
  · rw [ha] at hC
    refine iq_G_call (σ' := (5, [some (.ref 1), some (.int x1)], [], (iq_sh l, I, J, q1.2))) (fun _ => rfl) hC rfl rfl ?_
    refine iq_G_go (k := 4) (σ' := (13, [some (.ref 1), some (.int x1)], [.int x1, .ref 6], (iq_sh l, I, J, q1.2))) (fun _ => rfl) ?_
    obtain ⟨hc_, h⟩ := iq_itn h
    refine iq_G_pos (c := iq_in x1 14) (σ1 := (14, [some (.ref 1), some (.int x1)], [.int (I 6 (Int32.toNatClampNeg x1))], (iq_sh l, I, J, q1.2))) (fun _ => rfl) hc_ ?_
    cases h
    exact iq_G_ret (fun _ => rfl)
  · rw [ha] at hC
    cases h
    exact iq_G_callx (fun _ => rfl) hC rfl rfl
set_option maxRecDepth 100000 in
theorem zL_kind_ok (l : Nat)  (x1 : Int32) (I : iq_I) (J : iq_J) (X : iq_X) {q : Int32 × iq_J × iq_X} (h : zL_kind x1 I J X = some q) : iq_Cc 3 328 [.ref 1, .int x1, .ref 114] (iq_sh l, I, J, X) (.inl (some (.int q.1)), (iq_sh l, I, q.2.1, q.2.2)) := by
  refine iq_Cc_of (L := [some (.ref 1), some (.int x1), some (.ref 114), none]) rfl rfl ?_
  unfold zL_kind at h
  refine iq_G_go (k := 4) (σ' := (4, [some (.ref 1), some (.int x1), some (.ref 114), none], [.int x1, .ref 1, .int (0 : Int32), .ref 114], (iq_sh l, I, J, X))) (fun _ => rfl) ?_
  obtain ⟨q1, hq1, h⟩ := iq_bnd h
  have hC := (zO_kind_ok l x1 I J X hq1)
  rcases iq_smc h with ⟨a2, ha, h⟩ | ⟨k3, ha, h⟩
  · rw [ha] at hC
    refine iq_G_call (σ' := (7, [some (.ref 1), some (.int x1), some (.ref 114), none], [.int a2, .int (0 : Int32), .ref 114], (iq_sh l, I, J, q1.2))) (fun _ => rfl) hC rfl rfl ?_
    refine iq_G_go (k := 1) (σ' := (8, [some (.ref 1), some (.int x1), some (.ref 114), none], [.long (Int32.toInt64 a2), .int (0 : Int32), .ref 114], (iq_sh l, I, J, q1.2))) (fun _ => rfl) ?_
    refine iq_G_go (k := 1) (σ' := (9, [some (.ref 1), some (.int x1), some (.ref 114), none], [], (iq_sh l, I, (iq_upJ J 114 0 (Int32.toInt64 a2)), q1.2))) (fun _ => rfl) ?_
    obtain ⟨J4, eJ4, h⟩ := ir_letG h
    rw [← eJ4]
    clear eJ4
    refine iq_G_go (k := 2) (σ' := (16, [some (.ref 1), some (.int x1), some (.ref 114), none], [.int (0 : Int32)], (iq_sh l, I, J4, q1.2))) (fun _ => rfl) ?_
    cases h
    exact iq_G_ret (fun _ => rfl)
  · rw [ha] at hC
    rcases iq_ite h with ⟨e, h⟩ | ⟨_, h⟩
    · subst e
      refine iq_G_call (σ' := (13, [some (.ref 1), some (.int x1), some (.ref 114), none], [], (iq_sh l, I, J, q1.2))) (fun _ => rfl) hC rfl rfl ?_
      refine iq_G_go (k := 1) (σ' := (14, [some (.ref 1), some (.int x1), some (.ref 114), none], [.int (1 : Int32)], (iq_sh l, I, J, q1.2))) (fun _ => rfl) ?_
      cases h
      exact iq_G_ret (fun _ => rfl)
    · obtain ⟨e, h⟩ := iq_itn h
      cases h
set_option maxRecDepth 100000 in
theorem zM_kind_ok (l : Nat)  (x1 : Int32) (I : iq_I) (J : iq_J) (X : iq_X) {q : Int32 × iq_I} (h : zM_kind x1 I = some q) : iq_Cc 3 255 [.ref 76, .int x1] (iq_sh l, I, J, X) (.inl (some (.int q.1)), (iq_sh l, q.2, J, X)) := by
  refine iq_Cc_of (L := [some (.ref 76), some (.int x1)]) rfl rfl ?_
  unfold zM_kind at h
  refine iq_G_go (k := 2) (σ' := (2, [some (.ref 76), some (.int x1)], [.int (0 : Int32), .ref 76], (iq_sh l, I, J, X))) (fun _ => rfl) ?_
  refine iq_G_go (k := 1) (σ' := (5, [some (.ref 76), some (.int x1)], [], (iq_sh l, (iq_upI I 76 0 (0 : Int32)), J, X))) (fun _ => rfl) ?_
  obtain ⟨I1, eI1, h⟩ := ir_letG h
  rw [← eI1]
  clear eI1
  refine iq_G_go (k := 2) (σ' := (7, [some (.ref 76), some (.int x1)], [.int x1, .ref 76], (iq_sh l, I1, J, X))) (fun _ => rfl) ?_
  obtain ⟨q2, hq2, h⟩ := iq_bnd h
  refine iq_G_call (σ' := (10, [some (.ref 76), some (.int x1)], [.int q2.1], (iq_sh l, q2.2, J, X))) (fun _ => rfl) (zM_isWord_ok l x1 I1 J X hq2) rfl rfl ?_
  rcases iq_ite h with ⟨hc_, h⟩ | ⟨hc_, h⟩
  · refine iq_G_pos (c := q2.1 = 0) (σ1 := (22, [some (.ref 76), some (.int x1)], [], (iq_sh l, q2.2, J, X))) (fun _ => rfl) hc_ ?_
    refine iq_G_go (k := 1) (σ' := (23, [some (.ref 76), some (.int x1)], [.int (0 : Int32)], (iq_sh l, q2.2, J, X))) (fun _ => rfl) ?_
    cases h
    exact iq_G_ret (fun _ => rfl)
  · refine iq_G_neg (c := q2.1 = 0) (σ1 := (13, [some (.ref 76), some (.int x1)], [], (iq_sh l, q2.2, J, X))) (fun _ => rfl) hc_ ?_
    refine iq_G_go (k := 3) (σ' := (18, [some (.ref 76), some (.int x1)], [.int x1, .ref 79], (iq_sh l, q2.2, J, X))) (fun _ => rfl) ?_
    obtain ⟨hc_, h⟩ := iq_itn h
    refine iq_G_pos (c := iq_in x1 14) (σ1 := (19, [some (.ref 76), some (.int x1)], [.int (q2.2 79 (Int32.toNatClampNeg x1))], (iq_sh l, q2.2, J, X))) (fun _ => rfl) hc_ ?_
    refine iq_G_go (k := 1) (σ' := (23, [some (.ref 76), some (.int x1)], [.int (q2.2 79 (Int32.toNatClampNeg x1))], (iq_sh l, q2.2, J, X))) (fun _ => rfl) ?_
    cases h
    exact iq_G_ret (fun _ => rfl)
set_option maxRecDepth 100000 in
theorem zU_letterAt_4_ok (l : Nat)  (x1 : Int32) (x2 : Int32) (I : iq_I) (J : iq_J) (X : iq_X) {q : Int32} (h : zU_letterAt_4 x1 x2 I = some q) : iq_Cc 1 43 [.ref 4, .int x1, .int x2] (iq_sh l, I, J, X) (.inl (some (.int q)), (iq_sh l, I, J, X)) := by
  refine iq_Cc_of (L := [some (.ref 4), some (.int x1), some (.int x2)]) rfl rfl ?_
  unfold zU_letterAt_4 at h
  refine iq_G_go (k := 1) (σ' := (1, [some (.ref 4), some (.int x1), some (.int x2)], [.int x1], (iq_sh l, I, J, X))) (fun _ => rfl) ?_
  rcases iq_ite h with ⟨hc_, h⟩ | ⟨hc_, h⟩
  · refine iq_G_pos (c := x1 < 0) (σ1 := (20, [some (.ref 4), some (.int x1), some (.int x2)], [], (iq_sh l, I, J, X))) (fun _ => rfl) hc_ ?_
    refine iq_G_go (k := 1) (σ' := (21, [some (.ref 4), some (.int x1), some (.int x2)], [.int (0 : Int32)], (iq_sh l, I, J, X))) (fun _ => rfl) ?_
    cases h
    exact iq_G_ret (fun _ => rfl)
  · refine iq_G_neg (c := x1 < 0) (σ1 := (4, [some (.ref 4), some (.int x1), some (.int x2)], [], (iq_sh l, I, J, X))) (fun _ => rfl) hc_ ?_
    refine iq_G_go (k := 2) (σ' := (7, [some (.ref 4), some (.int x1), some (.int x2)], [.int (14 : Int32), .int x1], (iq_sh l, I, J, X))) (fun _ => rfl) ?_
    rcases iq_ite h with ⟨hc_, h⟩ | ⟨hc_, h⟩
    · refine iq_G_pos (c := (14 : Int32) ≤ x1) (σ1 := (20, [some (.ref 4), some (.int x1), some (.int x2)], [], (iq_sh l, I, J, X))) (fun _ => rfl) hc_ ?_
      refine iq_G_go (k := 1) (σ' := (21, [some (.ref 4), some (.int x1), some (.int x2)], [.int (0 : Int32)], (iq_sh l, I, J, X))) (fun _ => rfl) ?_
      cases h
      exact iq_G_ret (fun _ => rfl)
    · refine iq_G_neg (c := (14 : Int32) ≤ x1) (σ1 := (10, [some (.ref 4), some (.int x1), some (.int x2)], [], (iq_sh l, I, J, X))) (fun _ => rfl) hc_ ?_
      refine iq_G_go (k := 1) (σ' := (11, [some (.ref 4), some (.int x1), some (.int x2)], [.int x2], (iq_sh l, I, J, X))) (fun _ => rfl) ?_
      rcases iq_ite h with ⟨hc_, h⟩ | ⟨hc_, h⟩
      · refine iq_G_pos (c := x2 < 0) (σ1 := (20, [some (.ref 4), some (.int x1), some (.int x2)], [], (iq_sh l, I, J, X))) (fun _ => rfl) hc_ ?_
        refine iq_G_go (k := 1) (σ' := (21, [some (.ref 4), some (.int x1), some (.int x2)], [.int (0 : Int32)], (iq_sh l, I, J, X))) (fun _ => rfl) ?_
        cases h
        exact iq_G_ret (fun _ => rfl)
      · refine iq_G_neg (c := x2 < 0) (σ1 := (14, [some (.ref 4), some (.int x1), some (.int x2)], [], (iq_sh l, I, J, X))) (fun _ => rfl) hc_ ?_
        refine iq_G_go (k := 2) (σ' := (17, [some (.ref 4), some (.int x1), some (.int x2)], [.int (9 : Int32), .int x2], (iq_sh l, I, J, X))) (fun _ => rfl) ?_
        rcases iq_ite h with ⟨hc_, h⟩ | ⟨hc_, h⟩
        · refine iq_G_pos (c := x2 < (9 : Int32)) (σ1 := (22, [some (.ref 4), some (.int x1), some (.int x2)], [], (iq_sh l, I, J, X))) (fun _ => rfl) hc_ ?_
          refine iq_G_go (k := 7) (σ' := (32, [some (.ref 4), some (.int x1), some (.int x2)], [.int ((x1 * (9 : Int32)) + x2), .ref 13], (iq_sh l, I, J, X))) (fun _ => rfl) ?_
          obtain ⟨hc_, h⟩ := iq_itn h
          refine iq_G_pos (c := iq_in ((x1 * (9 : Int32)) + x2) 126) (σ1 := (33, [some (.ref 4), some (.int x1), some (.int x2)], [.int (I 13 (Int32.toNatClampNeg ((x1 * (9 : Int32)) + x2)))], (iq_sh l, I, J, X))) (fun _ => rfl) hc_ ?_
          cases h
          exact iq_G_ret (fun _ => rfl)
        · refine iq_G_neg (c := x2 < (9 : Int32)) (σ1 := (20, [some (.ref 4), some (.int x1), some (.int x2)], [], (iq_sh l, I, J, X))) (fun _ => rfl) hc_ ?_
          refine iq_G_go (k := 1) (σ' := (21, [some (.ref 4), some (.int x1), some (.int x2)], [.int (0 : Int32)], (iq_sh l, I, J, X))) (fun _ => rfl) ?_
          cases h
          exact iq_G_ret (fun _ => rfl)
set_option maxRecDepth 100000 in
theorem zO_letter_37_ok (l : Nat)   (I : iq_I) (J : iq_J) (X : iq_X)  {q : (Int32 ⊕ Nat) × iq_X} (h : zO_letter_37 I X = some q)  : iq_Gg 1 153 (37, [none, none, none], [], (iq_sh l, I, J, X)) ((ir_Ri q.1), (iq_sh l, I, J, q.2)) := by
  unfold zO_letter_37 at h
  cases h
  exact iq_G_ret (fun _ => rfl)
set_option maxRecDepth 100000 in
theorem zO_letter_ok (l : Nat)  (x1 : Int32) (x2 : Int32) (I : iq_I) (J : iq_J) (X : iq_X) {q : (Int32 ⊕ Nat) × iq_X} (h : zO_letter x1 x2 I X = some q) : iq_Cc 2 153 [.ref 1, .int x1, .int x2] (iq_sh l, I, J, X) ((ir_Ri q.1), (iq_sh l, I, J, q.2)) := by
  refine iq_Cc_of (L := [some (.ref 1), some (.int x1), some (.int x2)]) rfl rfl ?_
  unfold zO_letter at h
  refine iq_G_go (k := 2) (σ' := (2, [some (.ref 1), some (.int x1), some (.int x2)], [.int x1, .ref 1], (iq_sh l, I, J, X))) (fun _ => rfl) ?_
  obtain ⟨q1, hq1, h⟩ := iq_bnd h
  have hC := (zO_needWord_ok l x1 I J X hq1)
  rcases iq_smc h with ⟨a2, ha, h⟩ | ⟨k3, ha, h⟩
  · rw [ha] at hC
    refine iq_G_call (σ' := (5, [some (.ref 1), some (.int x1), some (.int x2)], [], (iq_sh l, I, J, q1.2))) (fun _ => rfl) hC rfl rfl ?_
    refine iq_G_go (k := 2) (σ' := (7, [some (.ref 1), some (.int x1), some (.int x2)], [.int (-1 : Int32), .int x2], (iq_sh l, I, J, q1.2))) (fun _ => rfl) ?_
    rcases iq_ite h with ⟨hc_, h⟩ | ⟨hc_, h⟩
    · refine iq_G_pos (c := ¬ x2 = (-1 : Int32)) (σ1 := (20, [some (.ref 1), some (.int x1), some (.int x2)], [], (iq_sh l, I, J, q1.2))) (fun _ => rfl) hc_ ?_
      refine iq_G_go (k := 1) (σ' := (21, [some (.ref 1), some (.int x1), some (.int x2)], [.int x2], (iq_sh l, I, J, q1.2))) (fun _ => rfl) ?_
      rcases iq_ite h with ⟨hc_, h⟩ | ⟨hc_, h⟩
      · refine iq_G_pos (c := x2 < 0) (σ1 := (37, [some (.ref 1), some (.int x1), some (.int x2)], [], (iq_sh l, I, J, q1.2))) (fun _ => rfl) hc_ ?_
        exact iq_G_fg (L := [none, none, none]) trivial (zO_letter_37_ok l I J q1.2  h )
      · refine iq_G_neg (c := x2 < 0) (σ1 := (24, [some (.ref 1), some (.int x1), some (.int x2)], [], (iq_sh l, I, J, q1.2))) (fun _ => rfl) hc_ ?_
        refine iq_G_go (k := 5) (σ' := (33, [some (.ref 1), some (.int x1), some (.int x2)], [.int x1, .ref 5, .int x2], (iq_sh l, I, J, q1.2))) (fun _ => rfl) ?_
        obtain ⟨hc_, h⟩ := iq_itn h
        refine iq_G_pos (c := iq_in x1 14) (σ1 := (34, [some (.ref 1), some (.int x1), some (.int x2)], [.int (I 5 (Int32.toNatClampNeg x1)), .int x2], (iq_sh l, I, J, q1.2))) (fun _ => rfl) hc_ ?_
        rcases iq_ite h with ⟨hc_, h⟩ | ⟨hc_, h⟩
        · refine iq_G_pos (c := x2 < (I 5 (Int32.toNatClampNeg x1))) (σ1 := (47, [some (.ref 1), some (.int x1), some (.int x2)], [], (iq_sh l, I, J, q1.2))) (fun _ => rfl) hc_ ?_
          refine iq_G_go (k := 4) (σ' := (53, [some (.ref 1), some (.int x1), some (.int x2)], [.int x2, .int x1, .ref 4], (iq_sh l, I, J, q1.2))) (fun _ => rfl) ?_
          obtain ⟨q4, hq4, h⟩ := iq_bnd h
          refine iq_G_call (σ' := (56, [some (.ref 1), some (.int x1), some (.int x2)], [.int q4], (iq_sh l, I, J, q1.2))) (fun _ => rfl) (zU_letterAt_4_ok l x1 x2 I J q1.2 hq4) rfl rfl ?_
          cases h
          exact iq_G_ret (fun _ => rfl)
        · refine iq_G_neg (c := x2 < (I 5 (Int32.toNatClampNeg x1))) (σ1 := (37, [some (.ref 1), some (.int x1), some (.int x2)], [], (iq_sh l, I, J, q1.2))) (fun _ => rfl) hc_ ?_
          exact iq_G_fg (L := [none, none, none]) trivial (zO_letter_37_ok l I J q1.2  h )
    · refine iq_G_neg (c := ¬ x2 = (-1 : Int32)) (σ1 := (10, [some (.ref 1), some (.int x1), some (.int x2)], [], (iq_sh l, I, J, q1.2))) (fun _ => rfl) hc_ ?_
      refine iq_G_go (k := 4) (σ' := (18, [some (.ref 1), some (.int x1), some (.int x2)], [.int x1, .ref 5], (iq_sh l, I, J, q1.2))) (fun _ => rfl) ?_
      obtain ⟨hc_, h⟩ := iq_itn h
      refine iq_G_pos (c := iq_in x1 14) (σ1 := (19, [some (.ref 1), some (.int x1), some (.int x2)], [.int (I 5 (Int32.toNatClampNeg x1))], (iq_sh l, I, J, q1.2))) (fun _ => rfl) hc_ ?_
      cases h
      exact iq_G_ret (fun _ => rfl)
  · rw [ha] at hC
    cases h
    exact iq_G_callx (fun _ => rfl) hC rfl rfl
set_option maxRecDepth 100000 in
theorem zL_letter_ok (l : Nat)  (x1 : Int32) (x2 : Int32) (I : iq_I) (J : iq_J) (X : iq_X) {q : Int32 × iq_J × iq_X} (h : zL_letter x1 x2 I J X = some q) : iq_Cc 3 327 [.ref 1, .int x1, .int x2, .ref 114] (iq_sh l, I, J, X) (.inl (some (.int q.1)), (iq_sh l, I, q.2.1, q.2.2)) := by
  refine iq_Cc_of (L := [some (.ref 1), some (.int x1), some (.int x2), some (.ref 114), none]) rfl rfl ?_
  unfold zL_letter at h
  refine iq_G_go (k := 5) (σ' := (5, [some (.ref 1), some (.int x1), some (.int x2), some (.ref 114), none], [.int x2, .int x1, .ref 1, .int (0 : Int32), .ref 114], (iq_sh l, I, J, X))) (fun _ => rfl) ?_
  obtain ⟨q1, hq1, h⟩ := iq_bnd h
  have hC := (zO_letter_ok l x1 x2 I J X hq1)
  rcases iq_smc h with ⟨a2, ha, h⟩ | ⟨k3, ha, h⟩
  · rw [ha] at hC
    refine iq_G_call (σ' := (8, [some (.ref 1), some (.int x1), some (.int x2), some (.ref 114), none], [.int a2, .int (0 : Int32), .ref 114], (iq_sh l, I, J, q1.2))) (fun _ => rfl) hC rfl rfl ?_
    refine iq_G_go (k := 1) (σ' := (9, [some (.ref 1), some (.int x1), some (.int x2), some (.ref 114), none], [.long (Int32.toInt64 a2), .int (0 : Int32), .ref 114], (iq_sh l, I, J, q1.2))) (fun _ => rfl) ?_
    refine iq_G_go (k := 1) (σ' := (10, [some (.ref 1), some (.int x1), some (.int x2), some (.ref 114), none], [], (iq_sh l, I, (iq_upJ J 114 0 (Int32.toInt64 a2)), q1.2))) (fun _ => rfl) ?_
    obtain ⟨J4, eJ4, h⟩ := ir_letG h
    rw [← eJ4]
    clear eJ4
    refine iq_G_go (k := 2) (σ' := (18, [some (.ref 1), some (.int x1), some (.int x2), some (.ref 114), none], [.int (0 : Int32)], (iq_sh l, I, J4, q1.2))) (fun _ => rfl) ?_
    cases h
    exact iq_G_ret (fun _ => rfl)
  · rw [ha] at hC
    rcases iq_ite h with ⟨e, h⟩ | ⟨_, h⟩
    · subst e
      refine iq_G_call (σ' := (15, [some (.ref 1), some (.int x1), some (.int x2), some (.ref 114), none], [], (iq_sh l, I, J, q1.2))) (fun _ => rfl) hC rfl rfl ?_
      refine iq_G_go (k := 1) (σ' := (16, [some (.ref 1), some (.int x1), some (.int x2), some (.ref 114), none], [.int (1 : Int32)], (iq_sh l, I, J, q1.2))) (fun _ => rfl) ?_
      cases h
      exact iq_G_ret (fun _ => rfl)
    · obtain ⟨e, h⟩ := iq_itn h
      cases h
set_option maxRecDepth 100000 in
theorem zM_letter_34_ok (l : Nat)  (x1 : Int32) (x2 : Int32) (s1 : Int32) (I : iq_I) (J : iq_J) (X : iq_X)  {q : Int32 × iq_I} (h : zM_letter_34 x1 x2 s1 I = some q)  : iq_Gg 2 254 (34, [some (.ref 76), some (.int x1), some (.int x2)], [.int s1, .ref 76], (iq_sh l, I, J, X)) (.inl (some (.int q.1)), (iq_sh l, q.2, J, X)) := by
  unfold zM_letter_34 at h
  refine iq_G_go (k := 1) (σ' := (35, [some (.ref 76), some (.int x1), some (.int x2)], [.int (1 : Int32), .int s1, .ref 76], (iq_sh l, I, J, X))) (fun _ => rfl) ?_
  obtain ⟨q3, hq3, h⟩ := iq_bnd h
  refine iq_G_call (σ' := (38, [some (.ref 76), some (.int x1), some (.int x2)], [.int q3.1], (iq_sh l, q3.2, J, X))) (fun _ => rfl) (zM_right_ok l s1 (1 : Int32) I J X hq3) rfl rfl ?_
  rcases iq_ite h with ⟨hc_, h⟩ | ⟨hc_, h⟩
  · refine iq_G_pos (c := ¬ q3.1 = 0) (σ1 := (43, [some (.ref 76), some (.int x1), some (.int x2)], [], (iq_sh l, q3.2, J, X))) (fun _ => rfl) hc_ ?_
    refine iq_G_go (k := 2) (σ' := (45, [some (.ref 76), some (.int x1), some (.int x2)], [.int (-1 : Int32), .int x2], (iq_sh l, q3.2, J, X))) (fun _ => rfl) ?_
    rcases iq_ite h with ⟨hc_, h⟩ | ⟨hc_, h⟩
    · refine iq_G_pos (c := ¬ x2 = (-1 : Int32)) (σ1 := (57, [some (.ref 76), some (.int x1), some (.int x2)], [], (iq_sh l, q3.2, J, X))) (fun _ => rfl) hc_ ?_
      refine iq_G_go (k := 7) (σ' := (67, [some (.ref 76), some (.int x1), some (.int x2)], [.int (((9 : Int32) * x1) + x2), .ref 77], (iq_sh l, q3.2, J, X))) (fun _ => rfl) ?_
      obtain ⟨hc_, h⟩ := iq_itn h
      refine iq_G_pos (c := iq_in (((9 : Int32) * x1) + x2) 126) (σ1 := (68, [some (.ref 76), some (.int x1), some (.int x2)], [.int (q3.2 77 (Int32.toNatClampNeg (((9 : Int32) * x1) + x2)))], (iq_sh l, q3.2, J, X))) (fun _ => rfl) hc_ ?_
      cases h
      exact iq_G_ret (fun _ => rfl)
    · refine iq_G_neg (c := ¬ x2 = (-1 : Int32)) (σ1 := (48, [some (.ref 76), some (.int x1), some (.int x2)], [], (iq_sh l, q3.2, J, X))) (fun _ => rfl) hc_ ?_
      refine iq_G_go (k := 3) (σ' := (53, [some (.ref 76), some (.int x1), some (.int x2)], [.int x1, .ref 78], (iq_sh l, q3.2, J, X))) (fun _ => rfl) ?_
      obtain ⟨hc_, h⟩ := iq_itn h
      refine iq_G_pos (c := iq_in x1 14) (σ1 := (54, [some (.ref 76), some (.int x1), some (.int x2)], [.int (q3.2 78 (Int32.toNatClampNeg x1))], (iq_sh l, q3.2, J, X))) (fun _ => rfl) hc_ ?_
      refine iq_G_go (k := 1) (σ' := (68, [some (.ref 76), some (.int x1), some (.int x2)], [.int (q3.2 78 (Int32.toNatClampNeg x1))], (iq_sh l, q3.2, J, X))) (fun _ => rfl) ?_
      cases h
      exact iq_G_ret (fun _ => rfl)
  · refine iq_G_neg (c := ¬ q3.1 = 0) (σ1 := (41, [some (.ref 76), some (.int x1), some (.int x2)], [], (iq_sh l, q3.2, J, X))) (fun _ => rfl) hc_ ?_
    refine iq_G_go (k := 1) (σ' := (42, [some (.ref 76), some (.int x1), some (.int x2)], [.int (0 : Int32)], (iq_sh l, q3.2, J, X))) (fun _ => rfl) ?_
    cases h
    exact iq_G_ret (fun _ => rfl)
set_option maxRecDepth 100000 in
theorem zM_letter_33_ok (l : Nat)  (x1 : Int32) (x2 : Int32) (I : iq_I) (J : iq_J) (X : iq_X)  {q : Int32 × iq_I} (h : zM_letter_33 x1 x2 I = some q)  : iq_Gg 2 254 (33, [some (.ref 76), some (.int x1), some (.int x2)], [.ref 76], (iq_sh l, I, J, X)) (.inl (some (.int q.1)), (iq_sh l, q.2, J, X)) := by
  unfold zM_letter_33 at h
  refine iq_G_go (k := 1) (σ' := (34, [some (.ref 76), some (.int x1), some (.int x2)], [.int (0 : Int32), .ref 76], (iq_sh l, I, J, X))) (fun _ => rfl) ?_
  exact iq_G_fg (L := [some (.ref 76), some (.int x1), some (.int x2)]) (And.intro rfl (And.intro rfl (And.intro rfl trivial))) (zM_letter_34_ok l x1 x2 (0 : Int32) I J X  h )
set_option maxRecDepth 100000 in
theorem zM_letter_ok (l : Nat)  (x1 : Int32) (x2 : Int32) (I : iq_I) (J : iq_J) (X : iq_X) {q : Int32 × iq_I} (h : zM_letter x1 x2 I = some q) : iq_Cc 3 254 [.ref 76, .int x1, .int x2] (iq_sh l, I, J, X) (.inl (some (.int q.1)), (iq_sh l, q.2, J, X)) := by
  refine iq_Cc_of (L := [some (.ref 76), some (.int x1), some (.int x2)]) rfl rfl ?_
  unfold zM_letter at h
  refine iq_G_go (k := 2) (σ' := (2, [some (.ref 76), some (.int x1), some (.int x2)], [.int (0 : Int32), .ref 76], (iq_sh l, I, J, X))) (fun _ => rfl) ?_
  refine iq_G_go (k := 1) (σ' := (5, [some (.ref 76), some (.int x1), some (.int x2)], [], (iq_sh l, (iq_upI I 76 0 (0 : Int32)), J, X))) (fun _ => rfl) ?_
  obtain ⟨I1, eI1, h⟩ := ir_letG h
  rw [← eI1]
  clear eI1
  refine iq_G_go (k := 2) (σ' := (7, [some (.ref 76), some (.int x1), some (.int x2)], [.int x1, .ref 76], (iq_sh l, I1, J, X))) (fun _ => rfl) ?_
  obtain ⟨q2, hq2, h⟩ := iq_bnd h
  refine iq_G_call (σ' := (10, [some (.ref 76), some (.int x1), some (.int x2)], [.int q2.1], (iq_sh l, q2.2, J, X))) (fun _ => rfl) (zM_isWord_ok l x1 I1 J X hq2) rfl rfl ?_
  rcases iq_ite h with ⟨hc_, h⟩ | ⟨hc_, h⟩
  · refine iq_G_pos (c := q2.1 = 0) (σ1 := (41, [some (.ref 76), some (.int x1), some (.int x2)], [], (iq_sh l, q2.2, J, X))) (fun _ => rfl) hc_ ?_
    refine iq_G_go (k := 1) (σ' := (42, [some (.ref 76), some (.int x1), some (.int x2)], [.int (0 : Int32)], (iq_sh l, q2.2, J, X))) (fun _ => rfl) ?_
    cases h
    exact iq_G_ret (fun _ => rfl)
  · refine iq_G_neg (c := q2.1 = 0) (σ1 := (13, [some (.ref 76), some (.int x1), some (.int x2)], [], (iq_sh l, q2.2, J, X))) (fun _ => rfl) hc_ ?_
    refine iq_G_go (k := 3) (σ' := (16, [some (.ref 76), some (.int x1), some (.int x2)], [.int (-1 : Int32), .int x2, .ref 76], (iq_sh l, q2.2, J, X))) (fun _ => rfl) ?_
    rcases iq_ite h with ⟨hc_, h⟩ | ⟨hc_, h⟩
    · refine iq_G_pos (c := x2 < (-1 : Int32)) (σ1 := (33, [some (.ref 76), some (.int x1), some (.int x2)], [.ref 76], (iq_sh l, q2.2, J, X))) (fun _ => rfl) hc_ ?_
      exact iq_G_fg (L := [some (.ref 76), some (.int x1), some (.int x2)]) (And.intro rfl (And.intro rfl (And.intro rfl trivial))) (zM_letter_33_ok l x1 x2 q2.2 J X  h )
    · refine iq_G_neg (c := x2 < (-1 : Int32)) (σ1 := (19, [some (.ref 76), some (.int x1), some (.int x2)], [.ref 76], (iq_sh l, q2.2, J, X))) (fun _ => rfl) hc_ ?_
      refine iq_G_go (k := 4) (σ' := (25, [some (.ref 76), some (.int x1), some (.int x2)], [.int x1, .ref 78, .int x2, .ref 76], (iq_sh l, q2.2, J, X))) (fun _ => rfl) ?_
      obtain ⟨hc_, h⟩ := iq_itn h
      refine iq_G_pos (c := iq_in x1 14) (σ1 := (26, [some (.ref 76), some (.int x1), some (.int x2)], [.int (q2.2 78 (Int32.toNatClampNeg x1)), .int x2, .ref 76], (iq_sh l, q2.2, J, X))) (fun _ => rfl) hc_ ?_
      rcases iq_ite h with ⟨hc_, h⟩ | ⟨hc_, h⟩
      · refine iq_G_pos (c := (q2.2 78 (Int32.toNatClampNeg x1)) ≤ x2) (σ1 := (33, [some (.ref 76), some (.int x1), some (.int x2)], [.ref 76], (iq_sh l, q2.2, J, X))) (fun _ => rfl) hc_ ?_
        exact iq_G_fg (L := [some (.ref 76), some (.int x1), some (.int x2)]) (And.intro rfl (And.intro rfl (And.intro rfl trivial))) (zM_letter_33_ok l x1 x2 q2.2 J X  h )
      · refine iq_G_neg (c := (q2.2 78 (Int32.toNatClampNeg x1)) ≤ x2) (σ1 := (29, [some (.ref 76), some (.int x1), some (.int x2)], [.ref 76], (iq_sh l, q2.2, J, X))) (fun _ => rfl) hc_ ?_
        refine iq_G_go (k := 2) (σ' := (34, [some (.ref 76), some (.int x1), some (.int x2)], [.int (1 : Int32), .ref 76], (iq_sh l, q2.2, J, X))) (fun _ => rfl) ?_
        exact iq_G_fg (L := [some (.ref 76), some (.int x1), some (.int x2)]) (And.intro rfl (And.intro rfl (And.intro rfl trivial))) (zM_letter_34_ok l x1 x2 (1 : Int32) q2.2 J X  h )
set_option maxRecDepth 100000 in
theorem zG_longest_l4_bok (l : Nat)   (I : iq_I) (J : iq_J) (X : iq_X) (x1 : Int32) (x2 : Int32)  {q : (Int32 × Int32) ⊕ (Int32)} (h : zG_longest_l4_b I x1 x2 = some q) (r : iq_R × iq_M) (hc : ∀ v, q = .inl v → iq_Gg 1 11 (4, [some (.ref 16), some (.int v.1), some (.int v.2)], [], (iq_sh l, I, J, X)) r) (hx : ∀ w, q = .inr w → iq_Gg 1 11 (28, [none, some (.int w), none], [], (iq_sh l, I, J, X)) r) : iq_Gg 1 11 (4, [some (.ref 16), some (.int x1), some (.int x2)], [], (iq_sh l, I, J, X)) r := by
  unfold zG_longest_l4_b at h
  refine iq_G_go (k := 3) (σ' := (9, [some (.ref 16), some (.int x1), some (.int x2)], [.int (I 16 0), .int x2], (iq_sh l, I, J, X))) (fun _ => rfl) ?_
  rcases iq_ite h with ⟨hc_, h⟩ | ⟨hc_, h⟩
  · refine iq_G_pos (c := (I 16 0) ≤ x2) (σ1 := (28, [some (.ref 16), some (.int x1), some (.int x2)], [], (iq_sh l, I, J, X))) (fun _ => rfl) hc_ ?_
    cases h
    exact iq_G_fg (L := [none, some (.int x1), none]) (And.intro rfl trivial) (hx x1 rfl)
  · refine iq_G_neg (c := (I 16 0) ≤ x2) (σ1 := (12, [some (.ref 16), some (.int x1), some (.int x2)], [], (iq_sh l, I, J, X))) (fun _ => rfl) hc_ ?_
    refine iq_G_go (k := 3) (σ' := (15, [some (.ref 16), some (.int x1), some (.int x2)], [.int x2, .ref 16, .int x1], (iq_sh l, I, J, X))) (fun _ => rfl) ?_
    obtain ⟨q1, hq1, h⟩ := iq_bnd h
    refine iq_G_call (σ' := (18, [some (.ref 16), some (.int x1), some (.int x2)], [.int q1, .int x1], (iq_sh l, I, J, X))) (fun _ => rfl) (zG_lengthOf_16_ok l x2 I J X hq1) rfl rfl ?_
    refine iq_G_go (k := 4) (σ' := (4, [some (.ref 16), some (.int (ir_max x1 q1)), some (.int (x2 + (1 : Int32)))], [], (iq_sh l, I, J, X))) (fun _ => rfl) ?_
    cases h
    exact iq_G_fg (L := [some (.ref 16), some (.int (ir_max x1 q1)), some (.int (x2 + (1 : Int32)))]) (And.intro rfl (And.intro rfl (And.intro rfl trivial))) (hc ((ir_max x1 q1), (x2 + (1 : Int32))) rfl)
set_option maxRecDepth 100000 in
theorem zG_longest_l4_ok (l : Nat)   (I : iq_I) (J : iq_J) (X : iq_X) {n : Nat} {v : Int32 × Int32} {w : Int32} (h : zG_longest_l4 I n v = some w) (r : iq_R × iq_M) (hq : iq_Gg 1 11 (28, [none, some (.int w), none], [], (iq_sh l, I, J, X)) r) : iq_Gg 1 11 (4, [some (.ref 16), some (.int v.1), some (.int v.2)], [], (iq_sh l, I, J, X)) r :=
  iq_lp_ok (σ := fun v => (4, [some (.ref 16), some (.int v.1), some (.int v.2)], [], (iq_sh l, I, J, X))) (Q := fun w r => iq_Gg 1 11 (28, [none, some (.int w), none], [], (iq_sh l, I, J, X)) r) (fun v q hv r h1 h2 => zG_longest_l4_bok l I J X v.1 v.2 hv r h1 h2) h r hq
set_option maxRecDepth 100000 in
theorem zG_longest_ok (l : Nat)   (I : iq_I) (J : iq_J) (X : iq_X) {q : Int32} (h : zG_longest I = some q) : iq_Cc 2 11 [.ref 16] (iq_sh l, I, J, X) (.inl (some (.int q)), (iq_sh l, I, J, X)) := by
  refine iq_Cc_of (L := [some (.ref 16), none, none]) rfl rfl ?_
  unfold zG_longest at h
  refine iq_G_go (k := 4) (σ' := (4, [some (.ref 16), some (.int (0 : Int32)), some (.int (0 : Int32))], [], (iq_sh l, I, J, X))) (fun _ => rfl) ?_
  obtain ⟨w2, hw2, h⟩ := iq_bnd h
  refine iq_G_fg (L := [some (.ref 16), some (.int (0 : Int32)), some (.int (0 : Int32))]) (And.intro rfl (And.intro rfl (And.intro rfl trivial))) ?_
  refine zG_longest_l4_ok l I J X hw2 _ ?_
  show iq_Gg 1 11 (28, [none, some (.int w2), none], [], (iq_sh l, I, J, X)) _
  refine iq_G_go (k := 1) (σ' := (29, [none, some (.int w2), none], [.int w2], (iq_sh l, I, J, X))) (fun _ => rfl) ?_
  cases h
  exact iq_G_ret (fun _ => rfl)
set_option maxRecDepth 100000 in
theorem zW_countBroken_l4_bok (l : Nat)   (I : iq_I) (J : iq_J) (X : iq_X) (x2 : Int32) (x3 : Int32)  {q : (Int32 × Int32) ⊕ (Int32)} (h : zW_countBroken_l4_b I x2 x3 = some q) (r : iq_R × iq_M) (hc : ∀ v, q = .inl v → iq_Gg 3 111 (4, [some (.ref 72), some (.ref 16), some (.int v.1), some (.int v.2)], [], (iq_sh l, I, J, X)) r) (hx : ∀ w, q = .inr w → iq_Gg 3 111 (34, [none, none, some (.int w), none], [], (iq_sh l, I, J, X)) r) : iq_Gg 3 111 (4, [some (.ref 72), some (.ref 16), some (.int x2), some (.int x3)], [], (iq_sh l, I, J, X)) r := by
  unfold zW_countBroken_l4_b at h
  refine iq_G_go (k := 3) (σ' := (9, [some (.ref 72), some (.ref 16), some (.int x2), some (.int x3)], [.int (I 16 0), .int x3], (iq_sh l, I, J, X))) (fun _ => rfl) ?_
  rcases iq_ite h with ⟨hc_, h⟩ | ⟨hc_, h⟩
  · refine iq_G_pos (c := (I 16 0) ≤ x3) (σ1 := (34, [some (.ref 72), some (.ref 16), some (.int x2), some (.int x3)], [], (iq_sh l, I, J, X))) (fun _ => rfl) hc_ ?_
    cases h
    exact iq_G_fg (L := [none, none, some (.int x2), none]) (And.intro rfl trivial) (hx x2 rfl)
  · refine iq_G_neg (c := (I 16 0) ≤ x3) (σ1 := (12, [some (.ref 72), some (.ref 16), some (.int x2), some (.int x3)], [], (iq_sh l, I, J, X))) (fun _ => rfl) hc_ ?_
    refine iq_G_go (k := 4) (σ' := (18, [some (.ref 72), some (.ref 16), some (.int x2), some (.int x3)], [.int x3, .ref 16, .ref 4], (iq_sh l, I, J, X))) (fun _ => rfl) ?_
    obtain ⟨q1, hq1, h⟩ := iq_bnd h
    refine iq_G_call (σ' := (21, [some (.ref 72), some (.ref 16), some (.int x2), some (.int x3)], [.int q1], (iq_sh l, I, J, X))) (fun _ => rfl) (zU_stateOf_4_16_ok l x3 I J X hq1) rfl rfl ?_
    refine iq_G_go (k := 1) (σ' := (22, [some (.ref 72), some (.ref 16), some (.int x2), some (.int x3)], [.int (-1 : Int32), .int q1], (iq_sh l, I, J, X))) (fun _ => rfl) ?_
    rcases iq_ite h with ⟨hc_, h⟩ | ⟨hc_, h⟩
    · refine iq_G_pos (c := ¬ q1 = (-1 : Int32)) (σ1 := (28, [some (.ref 72), some (.ref 16), some (.int x2), some (.int x3)], [], (iq_sh l, I, J, X))) (fun _ => rfl) hc_ ?_
      refine iq_G_go (k := 2) (σ' := (4, [some (.ref 72), some (.ref 16), some (.int x2), some (.int (x3 + (1 : Int32)))], [], (iq_sh l, I, J, X))) (fun _ => rfl) ?_
      cases h
      exact iq_G_fg (L := [some (.ref 72), some (.ref 16), some (.int x2), some (.int (x3 + (1 : Int32)))]) (And.intro rfl (And.intro rfl (And.intro rfl (And.intro rfl trivial)))) (hc (x2, (x3 + (1 : Int32))) rfl)
    · refine iq_G_neg (c := ¬ q1 = (-1 : Int32)) (σ1 := (25, [some (.ref 72), some (.ref 16), some (.int x2), some (.int x3)], [], (iq_sh l, I, J, X))) (fun _ => rfl) hc_ ?_
      refine iq_G_go (k := 3) (σ' := (4, [some (.ref 72), some (.ref 16), some (.int (x2 + (1 : Int32))), some (.int (x3 + (1 : Int32)))], [], (iq_sh l, I, J, X))) (fun _ => rfl) ?_
      cases h
      exact iq_G_fg (L := [some (.ref 72), some (.ref 16), some (.int (x2 + (1 : Int32))), some (.int (x3 + (1 : Int32)))]) (And.intro rfl (And.intro rfl (And.intro rfl (And.intro rfl trivial)))) (hc ((x2 + (1 : Int32)), (x3 + (1 : Int32))) rfl)
set_option maxRecDepth 100000 in
theorem zW_countBroken_l4_ok (l : Nat)   (I : iq_I) (J : iq_J) (X : iq_X) {n : Nat} {v : Int32 × Int32} {w : Int32} (h : zW_countBroken_l4 I n v = some w) (r : iq_R × iq_M) (hq : iq_Gg 3 111 (34, [none, none, some (.int w), none], [], (iq_sh l, I, J, X)) r) : iq_Gg 3 111 (4, [some (.ref 72), some (.ref 16), some (.int v.1), some (.int v.2)], [], (iq_sh l, I, J, X)) r :=
  iq_lp_ok (σ := fun v => (4, [some (.ref 72), some (.ref 16), some (.int v.1), some (.int v.2)], [], (iq_sh l, I, J, X))) (Q := fun w r => iq_Gg 3 111 (34, [none, none, some (.int w), none], [], (iq_sh l, I, J, X)) r) (fun v q hv r h1 h2 => zW_countBroken_l4_bok l I J X v.1 v.2 hv r h1 h2) h r hq
set_option maxRecDepth 100000 in
theorem zW_countBroken_ok (l : Nat)   (I : iq_I) (J : iq_J) (X : iq_X) {q : Int32} (h : zW_countBroken I = some q) : iq_Cc 4 111 [.ref 72, .ref 16] (iq_sh l, I, J, X) (.inl (some (.int q)), (iq_sh l, I, J, X)) := by
  refine iq_Cc_of (L := [some (.ref 72), some (.ref 16), none, none]) rfl rfl ?_
  unfold zW_countBroken at h
  refine iq_G_go (k := 4) (σ' := (4, [some (.ref 72), some (.ref 16), some (.int (0 : Int32)), some (.int (0 : Int32))], [], (iq_sh l, I, J, X))) (fun _ => rfl) ?_
  obtain ⟨w2, hw2, h⟩ := iq_bnd h
  refine iq_G_fg (L := [some (.ref 72), some (.ref 16), some (.int (0 : Int32)), some (.int (0 : Int32))]) (And.intro rfl (And.intro rfl (And.intro rfl (And.intro rfl trivial)))) ?_
  refine zW_countBroken_l4_ok l I J X hw2 _ ?_
  show iq_Gg 3 111 (34, [none, none, some (.int w2), none], [], (iq_sh l, I, J, X)) _
  refine iq_G_go (k := 1) (σ' := (35, [none, none, some (.int w2), none], [.int w2], (iq_sh l, I, J, X))) (fun _ => rfl) ?_
  cases h
  exact iq_G_ret (fun _ => rfl)
set_option maxRecDepth 100000 in
theorem zO_count_151_ok (l : Nat)   (I : iq_I) (J : iq_J) (X : iq_X)  {q : (Int32 ⊕ Nat) × iq_X} (h : zO_count_151 I X = some q)  : iq_Gg 4 152 (151, [some (.ref 1), none], [], (iq_sh l, I, J, X)) ((ir_Ri q.1), (iq_sh l, I, J, q.2)) := by
  unfold zO_count_151 at h
  refine iq_G_go (k := 3) (σ' := (156, [some (.ref 1), none], [.int (0 : Int32), .ref 3], (iq_sh l, I, J, X))) (fun _ => rfl) ?_
  refine iq_G_go (k := 1) (σ' := (157, [some (.ref 1), none], [.int (I 3 0)], (iq_sh l, I, J, X))) (fun _ => rfl) ?_
  cases h
  exact iq_G_ret (fun _ => rfl)
set_option maxRecDepth 100000 in
theorem zO_count_158_ok (l : Nat)   (I : iq_I) (J : iq_J) (X : iq_X)  {q : (Int32 ⊕ Nat) × iq_X} (h : zO_count_158 I X = some q)  : iq_Gg 4 152 (158, [some (.ref 1), none], [], (iq_sh l, I, J, X)) ((ir_Ri q.1), (iq_sh l, I, J, q.2)) := by
  unfold zO_count_158 at h
  refine iq_G_go (k := 3) (σ' := (163, [some (.ref 1), none], [.int (1 : Int32), .ref 3], (iq_sh l, I, J, X))) (fun _ => rfl) ?_
  refine iq_G_go (k := 1) (σ' := (164, [some (.ref 1), none], [.int (I 3 1)], (iq_sh l, I, J, X))) (fun _ => rfl) ?_
  cases h
  exact iq_G_ret (fun _ => rfl)
set_option maxRecDepth 100000 in
theorem zO_count_165_ok (l : Nat)   (I : iq_I) (J : iq_J) (X : iq_X)  {q : (Int32 ⊕ Nat) × iq_X} (h : zO_count_165 I X = some q)  : iq_Gg 4 152 (165, [some (.ref 1), none], [], (iq_sh l, I, J, X)) ((ir_Ri q.1), (iq_sh l, I, J, q.2)) := by
  unfold zO_count_165 at h
  refine iq_G_go (k := 3) (σ' := (170, [some (.ref 1), none], [.int (2 : Int32), .ref 3], (iq_sh l, I, J, X))) (fun _ => rfl) ?_
  refine iq_G_go (k := 1) (σ' := (171, [some (.ref 1), none], [.int (I 3 2)], (iq_sh l, I, J, X))) (fun _ => rfl) ?_
  cases h
  exact iq_G_ret (fun _ => rfl)
set_option maxRecDepth 100000 in
theorem zO_count_172_ok (l : Nat)   (I : iq_I) (J : iq_J) (X : iq_X)  {q : (Int32 ⊕ Nat) × iq_X} (h : zO_count_172 I X = some q)  : iq_Gg 4 152 (172, [some (.ref 1), none], [], (iq_sh l, I, J, X)) ((ir_Ri q.1), (iq_sh l, I, J, q.2)) := by
  unfold zO_count_172 at h
  refine iq_G_go (k := 4) (σ' := (180, [some (.ref 1), none], [.ref 16, .ref 72], (iq_sh l, I, J, X))) (fun _ => rfl) ?_
  obtain ⟨q1, hq1, h⟩ := iq_bnd h
  refine iq_G_call (σ' := (183, [some (.ref 1), none], [.int q1], (iq_sh l, I, J, X))) (fun _ => rfl) (zW_countBroken_ok l  I J X hq1) rfl rfl ?_
  cases h
  exact iq_G_ret (fun _ => rfl)
set_option maxRecDepth 100000 in
theorem zO_count_192_ok (l : Nat)   (I : iq_I) (J : iq_J) (X : iq_X)  {q : (Int32 ⊕ Nat) × iq_X} (h : zO_count_192 I X = some q)  : iq_Gg 4 152 (192, [some (.ref 1), none], [], (iq_sh l, I, J, X)) ((ir_Ri q.1), (iq_sh l, I, J, q.2)) := by
  unfold zO_count_192 at h
  refine iq_G_go (k := 2) (σ' := (196, [some (.ref 1), none], [.ref 16], (iq_sh l, I, J, X))) (fun _ => rfl) ?_
  obtain ⟨q2, hq2, h⟩ := iq_bnd h
  refine iq_G_call (σ' := (199, [some (.ref 1), none], [.int q2], (iq_sh l, I, J, X))) (fun _ => rfl) (zG_longest_ok l  I J X hq2) rfl rfl ?_
  cases h
  exact iq_G_ret (fun _ => rfl)
set_option maxRecDepth 100000 in
theorem zO_count_200_ok (l : Nat)   (I : iq_I) (J : iq_J) (X : iq_X)  {q : (Int32 ⊕ Nat) × iq_X} (h : zO_count_200 I X = some q)  : iq_Gg 4 152 (200, [none, none], [], (iq_sh l, I, J, X)) ((ir_Ri q.1), (iq_sh l, I, J, q.2)) := by
  unfold zO_count_200 at h
  cases h
  exact iq_G_ret (fun _ => rfl)
set_option maxRecDepth 100000 in
theorem zO_count_ok (l : Nat)  (x1 : Int32) (I : iq_I) (J : iq_J) (X : iq_X) {q : (Int32 ⊕ Nat) × iq_X} (h : zO_count x1 I X = some q) : iq_Cc 5 152 [.ref 1, .int x1] (iq_sh l, I, J, X) ((ir_Ri q.1), (iq_sh l, I, J, q.2)) := by
  refine iq_Cc_of (L := [some (.ref 1), some (.int x1)]) rfl rfl ?_
  unfold zO_count at h
  refine iq_G_go (k := 1) (σ' := (1, [some (.ref 1), some (.int x1)], [.int x1], (iq_sh l, I, J, X))) (fun _ => rfl) ?_
  rcases iq_ite h with ⟨e0, h⟩ | ⟨n0, h⟩
  · refine iq_G_sw (σ' := (76, [some (.ref 1), some (.int x1)], [], (iq_sh l, I, J, X))) (fun _ => rfl) (by rw [e0]; rfl) ?_
    refine iq_G_go (k := 3) (σ' := (83, [some (.ref 1), some (.int x1)], [.int (I 4 0)], (iq_sh l, I, J, X))) (fun _ => rfl) ?_
    cases h
    exact iq_G_ret (fun _ => rfl)
  rcases iq_ite h with ⟨e1, h⟩ | ⟨n1, h⟩
  · refine iq_G_sw (σ' := (84, [some (.ref 1), some (.int x1)], [], (iq_sh l, I, J, X))) (fun _ => rfl) (by rw [e1]; rfl) ?_
    refine iq_G_go (k := 3) (σ' := (91, [some (.ref 1), some (.int x1)], [.int (I 4 2)], (iq_sh l, I, J, X))) (fun _ => rfl) ?_
    cases h
    exact iq_G_ret (fun _ => rfl)
  rcases iq_ite h with ⟨e2, h⟩ | ⟨n2, h⟩
  · refine iq_G_sw (σ' := (92, [some (.ref 1), some (.int x1)], [], (iq_sh l, I, J, X))) (fun _ => rfl) (by rw [e2]; rfl) ?_
    refine iq_G_go (k := 3) (σ' := (99, [some (.ref 1), some (.int x1)], [.int (I 4 3)], (iq_sh l, I, J, X))) (fun _ => rfl) ?_
    cases h
    exact iq_G_ret (fun _ => rfl)
  rcases iq_ite h with ⟨e3, h⟩ | ⟨n3, h⟩
  · refine iq_G_sw (σ' := (100, [some (.ref 1), some (.int x1)], [], (iq_sh l, I, J, X))) (fun _ => rfl) (by rw [e3]; rfl) ?_
    refine iq_G_go (k := 3) (σ' := (107, [some (.ref 1), some (.int x1)], [.int (I 16 0)], (iq_sh l, I, J, X))) (fun _ => rfl) ?_
    cases h
    exact iq_G_ret (fun _ => rfl)
  rcases iq_ite h with ⟨e4, h⟩ | ⟨n4, h⟩
  · refine iq_G_sw (σ' := (108, [some (.ref 1), some (.int x1)], [], (iq_sh l, I, J, X))) (fun _ => rfl) (by rw [e4]; rfl) ?_
    refine iq_G_go (k := 4) (σ' := (118, [some (.ref 1), some (.int x1)], [.int (I 8 0)], (iq_sh l, I, J, X))) (fun _ => rfl) ?_
    cases h
    exact iq_G_ret (fun _ => rfl)
  rcases iq_ite h with ⟨e5, h⟩ | ⟨n5, h⟩
  · refine iq_G_sw (σ' := (119, [some (.ref 1), some (.int x1)], [], (iq_sh l, I, J, X))) (fun _ => rfl) (by rw [e5]; rfl) ?_
    refine iq_G_go (k := 3) (σ' := (126, [some (.ref 1), some (.int x1)], [.int (I 16 1)], (iq_sh l, I, J, X))) (fun _ => rfl) ?_
    cases h
    exact iq_G_ret (fun _ => rfl)
  rcases iq_ite h with ⟨e6, h⟩ | ⟨n6, h⟩
  · refine iq_G_sw (σ' := (127, [some (.ref 1), some (.int x1)], [], (iq_sh l, I, J, X))) (fun _ => rfl) (by rw [e6]; rfl) ?_
    refine iq_G_go (k := 4) (σ' := (137, [some (.ref 1), some (.int x1)], [.int (I 19 0)], (iq_sh l, I, J, X))) (fun _ => rfl) ?_
    cases h
    exact iq_G_ret (fun _ => rfl)
  rcases iq_ite h with ⟨e7, h⟩ | ⟨n7, h⟩
  · refine iq_G_sw (σ' := (138, [some (.ref 1), some (.int x1)], [], (iq_sh l, I, J, X))) (fun _ => rfl) (by rw [e7]; rfl) ?_
    refine iq_G_go (k := 3) (σ' := (145, [some (.ref 1), some (.int x1)], [.int (I 16 2)], (iq_sh l, I, J, X))) (fun _ => rfl) ?_
    cases h
    exact iq_G_ret (fun _ => rfl)
  rcases iq_ite h with ⟨e8, h⟩ | ⟨n8, h⟩
  · refine iq_G_sw (σ' := (146, [some (.ref 1), some (.int x1)], [], (iq_sh l, I, J, X))) (fun _ => rfl) (by rw [e8]; rfl) ?_
    refine iq_G_go (k := 2) (σ' := (150, [some (.ref 1), some (.int x1)], [.int (I 1 11)], (iq_sh l, I, J, X))) (fun _ => rfl) ?_
    cases h
    exact iq_G_ret (fun _ => rfl)
  rcases iq_ite h with ⟨e9, h⟩ | ⟨n9, h⟩
  · refine iq_G_sw (σ' := (151, [some (.ref 1), some (.int x1)], [], (iq_sh l, I, J, X))) (fun _ => rfl) (by rw [e9]; rfl) ?_
    exact iq_G_fg (L := [some (.ref 1), none]) (And.intro rfl trivial) (zO_count_151_ok l I J X  h )
  rcases iq_ite h with ⟨e10, h⟩ | ⟨n10, h⟩
  · refine iq_G_sw (σ' := (158, [some (.ref 1), some (.int x1)], [], (iq_sh l, I, J, X))) (fun _ => rfl) (by rw [e10]; rfl) ?_
    exact iq_G_fg (L := [some (.ref 1), none]) (And.intro rfl trivial) (zO_count_158_ok l I J X  h )
  rcases iq_ite h with ⟨e11, h⟩ | ⟨n11, h⟩
  · refine iq_G_sw (σ' := (165, [some (.ref 1), some (.int x1)], [], (iq_sh l, I, J, X))) (fun _ => rfl) (by rw [e11]; rfl) ?_
    exact iq_G_fg (L := [some (.ref 1), none]) (And.intro rfl trivial) (zO_count_165_ok l I J X  h )
  rcases iq_ite h with ⟨e12, h⟩ | ⟨n12, h⟩
  · refine iq_G_sw (σ' := (172, [some (.ref 1), some (.int x1)], [], (iq_sh l, I, J, X))) (fun _ => rfl) (by rw [e12]; rfl) ?_
    exact iq_G_fg (L := [some (.ref 1), none]) (And.intro rfl trivial) (zO_count_172_ok l I J X  h )
  rcases iq_ite h with ⟨e13, h⟩ | ⟨n13, h⟩
  · refine iq_G_sw (σ' := (184, [some (.ref 1), some (.int x1)], [], (iq_sh l, I, J, X))) (fun _ => rfl) (by rw [e13]; rfl) ?_
    refine iq_G_go (k := 3) (σ' := (191, [some (.ref 1), some (.int x1)], [.int (I 4 1)], (iq_sh l, I, J, X))) (fun _ => rfl) ?_
    cases h
    exact iq_G_ret (fun _ => rfl)
  rcases iq_ite h with ⟨e14, h⟩ | ⟨n14, h⟩
  · refine iq_G_sw (σ' := (192, [some (.ref 1), some (.int x1)], [], (iq_sh l, I, J, X))) (fun _ => rfl) (by rw [e14]; rfl) ?_
    exact iq_G_fg (L := [some (.ref 1), none]) (And.intro rfl trivial) (zO_count_192_ok l I J X  h )
  refine iq_G_sw (σ' := (200, [some (.ref 1), some (.int x1)], [], (iq_sh l, I, J, X))) (fun _ => rfl) ((Eq.trans (ir_swn n0 rfl) (Eq.trans (ir_swn n1 rfl) (Eq.trans (ir_swn n2 rfl) (Eq.trans (ir_swn n3 rfl) (Eq.trans (ir_swn n4 rfl) (Eq.trans (ir_swn n5 rfl) (Eq.trans (ir_swn n6 rfl) (Eq.trans (ir_swn n7 rfl) (Eq.trans (ir_swn n8 rfl) (Eq.trans (ir_swn n9 rfl) (Eq.trans (ir_swn n10 rfl) (Eq.trans (ir_swn n11 rfl) (Eq.trans (ir_swn n12 rfl) (Eq.trans (ir_swn n13 rfl) (Eq.trans (ir_swn n14 rfl) rfl)))))))))))))))) ?_
  exact iq_G_fg (L := [none, none]) trivial (zO_count_200_ok l I J X  h )
set_option maxRecDepth 100000 in
theorem zL_count_ok (l : Nat)  (x1 : Int32) (I : iq_I) (J : iq_J) (X : iq_X) {q : Int32 × iq_J × iq_X} (h : zL_count x1 I J X = some q) : iq_Cc 6 326 [.ref 1, .int x1, .ref 114] (iq_sh l, I, J, X) (.inl (some (.int q.1)), (iq_sh l, I, q.2.1, q.2.2)) := by
  refine iq_Cc_of (L := [some (.ref 1), some (.int x1), some (.ref 114), none]) rfl rfl ?_
  unfold zL_count at h
  refine iq_G_go (k := 4) (σ' := (4, [some (.ref 1), some (.int x1), some (.ref 114), none], [.int x1, .ref 1, .int (0 : Int32), .ref 114], (iq_sh l, I, J, X))) (fun _ => rfl) ?_
  obtain ⟨q1, hq1, h⟩ := iq_bnd h
  have hC := (zO_count_ok l x1 I J X hq1)
  rcases iq_smc h with ⟨a2, ha, h⟩ | ⟨k3, ha, h⟩
  · rw [ha] at hC
    refine iq_G_call (σ' := (7, [some (.ref 1), some (.int x1), some (.ref 114), none], [.int a2, .int (0 : Int32), .ref 114], (iq_sh l, I, J, q1.2))) (fun _ => rfl) hC rfl rfl ?_
    refine iq_G_go (k := 1) (σ' := (8, [some (.ref 1), some (.int x1), some (.ref 114), none], [.long (Int32.toInt64 a2), .int (0 : Int32), .ref 114], (iq_sh l, I, J, q1.2))) (fun _ => rfl) ?_
    refine iq_G_go (k := 1) (σ' := (9, [some (.ref 1), some (.int x1), some (.ref 114), none], [], (iq_sh l, I, (iq_upJ J 114 0 (Int32.toInt64 a2)), q1.2))) (fun _ => rfl) ?_
    obtain ⟨J4, eJ4, h⟩ := ir_letG h
    rw [← eJ4]
    clear eJ4
    refine iq_G_go (k := 2) (σ' := (16, [some (.ref 1), some (.int x1), some (.ref 114), none], [.int (0 : Int32)], (iq_sh l, I, J4, q1.2))) (fun _ => rfl) ?_
    cases h
    exact iq_G_ret (fun _ => rfl)
  · rw [ha] at hC
    rcases iq_ite h with ⟨e, h⟩ | ⟨_, h⟩
    · subst e
      refine iq_G_call (σ' := (13, [some (.ref 1), some (.int x1), some (.ref 114), none], [], (iq_sh l, I, J, q1.2))) (fun _ => rfl) hC rfl rfl ?_
      refine iq_G_go (k := 1) (σ' := (14, [some (.ref 1), some (.int x1), some (.ref 114), none], [.int (1 : Int32)], (iq_sh l, I, J, q1.2))) (fun _ => rfl) ?_
      cases h
      exact iq_G_ret (fun _ => rfl)
    · obtain ⟨e, h⟩ := iq_itn h
      cases h
set_option maxRecDepth 100000 in
theorem zM_longestOf_l4_bok (l : Nat)   (I : iq_I) (J : iq_J) (X : iq_X) (x1 : Int32) (x2 : Int32)  {q : (Int32 × Int32) ⊕ (Int32)} (h : zM_longestOf_l4_b I x1 x2 = some q) (r : iq_R × iq_M) (hc : ∀ v, q = .inl v → iq_Gg 0 247 (4, [some (.ref 76), some (.int v.1), some (.int v.2)], [], (iq_sh l, I, J, X)) r) (hx : ∀ w, q = .inr w → iq_Gg 0 247 (39, [none, some (.int w), none], [], (iq_sh l, I, J, X)) r) : iq_Gg 0 247 (4, [some (.ref 76), some (.int x1), some (.int x2)], [], (iq_sh l, I, J, X)) r := by
  unfold zM_longestOf_l4_b at h
  refine iq_G_go (k := 3) (σ' := (9, [some (.ref 76), some (.int x1), some (.int x2)], [.int (I 76 5), .int x2], (iq_sh l, I, J, X))) (fun _ => rfl) ?_
  rcases iq_ite h with ⟨hc_, h⟩ | ⟨hc_, h⟩
  · refine iq_G_pos (c := (I 76 5) ≤ x2) (σ1 := (39, [some (.ref 76), some (.int x1), some (.int x2)], [], (iq_sh l, I, J, X))) (fun _ => rfl) hc_ ?_
    cases h
    exact iq_G_fg (L := [none, some (.int x1), none]) (And.intro rfl trivial) (hx x1 rfl)
  · refine iq_G_neg (c := (I 76 5) ≤ x2) (σ1 := (12, [some (.ref 76), some (.int x1), some (.int x2)], [], (iq_sh l, I, J, X))) (fun _ => rfl) hc_ ?_
    refine iq_G_go (k := 3) (σ' := (17, [some (.ref 76), some (.int x1), some (.int x2)], [.int x2, .ref 98], (iq_sh l, I, J, X))) (fun _ => rfl) ?_
    obtain ⟨hc_, h⟩ := iq_itn h
    refine iq_G_pos (c := iq_in x2 206) (σ1 := (18, [some (.ref 76), some (.int x1), some (.int x2)], [.int (I 98 (Int32.toNatClampNeg x2))], (iq_sh l, I, J, X))) (fun _ => rfl) hc_ ?_
    refine iq_G_go (k := 1) (σ' := (19, [some (.ref 76), some (.int x1), some (.int x2)], [.int x1, .int (I 98 (Int32.toNatClampNeg x2))], (iq_sh l, I, J, X))) (fun _ => rfl) ?_
    rcases iq_ite h with ⟨hc_, h⟩ | ⟨hc_, h⟩
    · refine iq_G_pos (c := (I 98 (Int32.toNatClampNeg x2)) ≤ x1) (σ1 := (31, [some (.ref 76), some (.int x1), some (.int x2)], [], (iq_sh l, I, J, X))) (fun _ => rfl) hc_ ?_
      refine iq_G_go (k := 4) (σ' := (4, [some (.ref 76), some (.int x1), some (.int (x2 + (1 : Int32)))], [], (iq_sh l, I, J, X))) (fun _ => rfl) ?_
      cases h
      exact iq_G_fg (L := [some (.ref 76), some (.int x1), some (.int (x2 + (1 : Int32)))]) (And.intro rfl (And.intro rfl (And.intro rfl trivial))) (hc (x1, (x2 + (1 : Int32))) rfl)
    · refine iq_G_neg (c := (I 98 (Int32.toNatClampNeg x2)) ≤ x1) (σ1 := (22, [some (.ref 76), some (.int x1), some (.int x2)], [], (iq_sh l, I, J, X))) (fun _ => rfl) hc_ ?_
      refine iq_G_go (k := 3) (σ' := (27, [some (.ref 76), some (.int x1), some (.int x2)], [.int x2, .ref 98], (iq_sh l, I, J, X))) (fun _ => rfl) ?_
      obtain ⟨hc_, h⟩ := iq_itn h
      refine iq_G_pos (c := iq_in x2 206) (σ1 := (28, [some (.ref 76), some (.int x1), some (.int x2)], [.int (I 98 (Int32.toNatClampNeg x2))], (iq_sh l, I, J, X))) (fun _ => rfl) hc_ ?_
      refine iq_G_go (k := 4) (σ' := (4, [some (.ref 76), some (.int (I 98 (Int32.toNatClampNeg x2))), some (.int (x2 + (1 : Int32)))], [], (iq_sh l, I, J, X))) (fun _ => rfl) ?_
      cases h
      exact iq_G_fg (L := [some (.ref 76), some (.int (I 98 (Int32.toNatClampNeg x2))), some (.int (x2 + (1 : Int32)))]) (And.intro rfl (And.intro rfl (And.intro rfl trivial))) (hc ((I 98 (Int32.toNatClampNeg x2)), (x2 + (1 : Int32))) rfl)
set_option maxRecDepth 100000 in
theorem zM_longestOf_l4_ok (l : Nat)   (I : iq_I) (J : iq_J) (X : iq_X) {n : Nat} {v : Int32 × Int32} {w : Int32} (h : zM_longestOf_l4 I n v = some w) (r : iq_R × iq_M) (hq : iq_Gg 0 247 (39, [none, some (.int w), none], [], (iq_sh l, I, J, X)) r) : iq_Gg 0 247 (4, [some (.ref 76), some (.int v.1), some (.int v.2)], [], (iq_sh l, I, J, X)) r :=
  iq_lp_ok (σ := fun v => (4, [some (.ref 76), some (.int v.1), some (.int v.2)], [], (iq_sh l, I, J, X))) (Q := fun w r => iq_Gg 0 247 (39, [none, some (.int w), none], [], (iq_sh l, I, J, X)) r) (fun v q hv r h1 h2 => zM_longestOf_l4_bok l I J X v.1 v.2 hv r h1 h2) h r hq
set_option maxRecDepth 100000 in
theorem zM_longestOf_ok (l : Nat)   (I : iq_I) (J : iq_J) (X : iq_X) {q : Int32} (h : zM_longestOf I = some q) : iq_Cc 1 247 [.ref 76] (iq_sh l, I, J, X) (.inl (some (.int q)), (iq_sh l, I, J, X)) := by
  refine iq_Cc_of (L := [some (.ref 76), none, none]) rfl rfl ?_
  unfold zM_longestOf at h
  refine iq_G_go (k := 4) (σ' := (4, [some (.ref 76), some (.int (0 : Int32)), some (.int (0 : Int32))], [], (iq_sh l, I, J, X))) (fun _ => rfl) ?_
  obtain ⟨w1, hw1, h⟩ := iq_bnd h
  refine iq_G_fg (L := [some (.ref 76), some (.int (0 : Int32)), some (.int (0 : Int32))]) (And.intro rfl (And.intro rfl (And.intro rfl trivial))) ?_
  refine zM_longestOf_l4_ok l I J X hw1 _ ?_
  show iq_Gg 0 247 (39, [none, some (.int w1), none], [], (iq_sh l, I, J, X)) _
  refine iq_G_go (k := 1) (σ' := (40, [none, some (.int w1), none], [.int w1], (iq_sh l, I, J, X))) (fun _ => rfl) ?_
  cases h
  exact iq_G_ret (fun _ => rfl)
set_option maxRecDepth 100000 in
theorem zM_broken_l4_bok (l : Nat)   (I : iq_I) (J : iq_J) (X : iq_X) (x1 : Int32) (x2 : Int32)  {q : (Int32 × Int32) ⊕ (Int32)} (h : zM_broken_l4_b I x1 x2 = some q) (r : iq_R × iq_M) (hc : ∀ v, q = .inl v → iq_Gg 3 248 (4, [some (.ref 76), some (.int v.1), some (.int v.2)], [], (iq_sh l, I, J, X)) r) (hx : ∀ w, q = .inr w → iq_Gg 3 248 (39, [none, some (.int w), none], [], (iq_sh l, I, J, X)) r) : iq_Gg 3 248 (4, [some (.ref 76), some (.int x1), some (.int x2)], [], (iq_sh l, I, J, X)) r := by
  unfold zM_broken_l4_b at h
  refine iq_G_go (k := 3) (σ' := (9, [some (.ref 76), some (.int x1), some (.int x2)], [.int (I 76 5), .int x2], (iq_sh l, I, J, X))) (fun _ => rfl) ?_
  rcases iq_ite h with ⟨hc_, h⟩ | ⟨hc_, h⟩
  · refine iq_G_pos (c := (I 76 5) ≤ x2) (σ1 := (39, [some (.ref 76), some (.int x1), some (.int x2)], [], (iq_sh l, I, J, X))) (fun _ => rfl) hc_ ?_
    cases h
    exact iq_G_fg (L := [none, some (.int x1), none]) (And.intro rfl trivial) (hx x1 rfl)
  · refine iq_G_neg (c := (I 76 5) ≤ x2) (σ1 := (12, [some (.ref 76), some (.int x1), some (.int x2)], [], (iq_sh l, I, J, X))) (fun _ => rfl) hc_ ?_
    refine iq_G_go (k := 5) (σ' := (19, [some (.ref 76), some (.int x1), some (.int x2)], [.int x2, .ref 98, .ref 76, .int x1], (iq_sh l, I, J, X))) (fun _ => rfl) ?_
    obtain ⟨q1, hq1, h⟩ := iq_bnd h
    refine iq_G_call (σ' := (22, [some (.ref 76), some (.int x1), some (.int x2)], [.int q1, .int x1], (iq_sh l, I, J, X))) (fun _ => rfl) (zM_stateNow_76_98_ok l x2 I J X hq1) rfl rfl ?_
    refine iq_G_go (k := 1) (σ' := (23, [some (.ref 76), some (.int x1), some (.int x2)], [.int (-1 : Int32), .int q1, .int x1], (iq_sh l, I, J, X))) (fun _ => rfl) ?_
    rcases iq_ite h with ⟨hc_, h⟩ | ⟨hc_, h⟩
    · refine iq_G_pos (c := ¬ q1 = (-1 : Int32)) (σ1 := (30, [some (.ref 76), some (.int x1), some (.int x2)], [.int x1], (iq_sh l, I, J, X))) (fun _ => rfl) hc_ ?_
      refine iq_G_go (k := 5) (σ' := (4, [some (.ref 76), some (.int (x1 + (0 : Int32))), some (.int (x2 + (1 : Int32)))], [], (iq_sh l, I, J, X))) (fun _ => rfl) ?_
      cases h
      exact iq_G_fg (L := [some (.ref 76), some (.int (x1 + (0 : Int32))), some (.int (x2 + (1 : Int32)))]) (And.intro rfl (And.intro rfl (And.intro rfl trivial))) (hc ((x1 + (0 : Int32)), (x2 + (1 : Int32))) rfl)
    · refine iq_G_neg (c := ¬ q1 = (-1 : Int32)) (σ1 := (26, [some (.ref 76), some (.int x1), some (.int x2)], [.int x1], (iq_sh l, I, J, X))) (fun _ => rfl) hc_ ?_
      refine iq_G_go (k := 6) (σ' := (4, [some (.ref 76), some (.int (x1 + (1 : Int32))), some (.int (x2 + (1 : Int32)))], [], (iq_sh l, I, J, X))) (fun _ => rfl) ?_
      cases h
      exact iq_G_fg (L := [some (.ref 76), some (.int (x1 + (1 : Int32))), some (.int (x2 + (1 : Int32)))]) (And.intro rfl (And.intro rfl (And.intro rfl trivial))) (hc ((x1 + (1 : Int32)), (x2 + (1 : Int32))) rfl)
set_option maxRecDepth 100000 in
theorem zM_broken_l4_ok (l : Nat)   (I : iq_I) (J : iq_J) (X : iq_X) {n : Nat} {v : Int32 × Int32} {w : Int32} (h : zM_broken_l4 I n v = some w) (r : iq_R × iq_M) (hq : iq_Gg 3 248 (39, [none, some (.int w), none], [], (iq_sh l, I, J, X)) r) : iq_Gg 3 248 (4, [some (.ref 76), some (.int v.1), some (.int v.2)], [], (iq_sh l, I, J, X)) r :=
  iq_lp_ok (σ := fun v => (4, [some (.ref 76), some (.int v.1), some (.int v.2)], [], (iq_sh l, I, J, X))) (Q := fun w r => iq_Gg 3 248 (39, [none, some (.int w), none], [], (iq_sh l, I, J, X)) r) (fun v q hv r h1 h2 => zM_broken_l4_bok l I J X v.1 v.2 hv r h1 h2) h r hq
set_option maxRecDepth 100000 in
theorem zM_broken_ok (l : Nat)   (I : iq_I) (J : iq_J) (X : iq_X) {q : Int32} (h : zM_broken I = some q) : iq_Cc 4 248 [.ref 76] (iq_sh l, I, J, X) (.inl (some (.int q)), (iq_sh l, I, J, X)) := by
  refine iq_Cc_of (L := [some (.ref 76), none, none]) rfl rfl ?_
  unfold zM_broken at h
  refine iq_G_go (k := 4) (σ' := (4, [some (.ref 76), some (.int (0 : Int32)), some (.int (0 : Int32))], [], (iq_sh l, I, J, X))) (fun _ => rfl) ?_
  obtain ⟨w2, hw2, h⟩ := iq_bnd h
  refine iq_G_fg (L := [some (.ref 76), some (.int (0 : Int32)), some (.int (0 : Int32))]) (And.intro rfl (And.intro rfl (And.intro rfl trivial))) ?_
  refine zM_broken_l4_ok l I J X hw2 _ ?_
  show iq_Gg 3 248 (39, [none, some (.int w2), none], [], (iq_sh l, I, J, X)) _
  refine iq_G_go (k := 1) (σ' := (40, [none, some (.int w2), none], [.int w2], (iq_sh l, I, J, X))) (fun _ => rfl) ?_
  cases h
  exact iq_G_ret (fun _ => rfl)
set_option maxRecDepth 100000 in
theorem zM_count_131_ok (l : Nat)   (I : iq_I) (J : iq_J) (X : iq_X)  {q : Int32 × iq_I} (h : zM_count_131 I = some q)  : iq_Gg 4 249 (131, [some (.ref 76), none], [], (iq_sh l, I, J, X)) (.inl (some (.int q.1)), (iq_sh l, q.2, J, X)) := by
  unfold zM_count_131 at h
  refine iq_G_go (k := 3) (σ' := (136, [some (.ref 76), none], [.int (5 : Int32), .ref 98], (iq_sh l, I, J, X))) (fun _ => rfl) ?_
  refine iq_G_go (k := 1) (σ' := (137, [some (.ref 76), none], [.int (I 98 5)], (iq_sh l, I, J, X))) (fun _ => rfl) ?_
  cases h
  exact iq_G_ret (fun _ => rfl)
set_option maxRecDepth 100000 in
theorem zM_count_158_ok (l : Nat)  (x1 : Int32) (I : iq_I) (J : iq_J) (X : iq_X)  {q : Int32 × iq_I} (h : zM_count_158 x1 I = some q)  : iq_Gg 4 249 (158, [some (.ref 76), some (.int x1)], [], (iq_sh l, I, J, X)) (.inl (some (.int q.1)), (iq_sh l, q.2, J, X)) := by
  unfold zM_count_158 at h
  refine iq_G_go (k := 5) (σ' := (166, [some (.ref 76), some (.int x1)], [.int (x1 - (9 : Int32)), .ref 86], (iq_sh l, I, J, X))) (fun _ => rfl) ?_
  obtain ⟨hc_, h⟩ := iq_itn h
  have st_ : ∀ (z_0 : Int32) (r_ : iq_R × iq_M), iq_in z_0 3 → iq_Gg 4 249 (167, [some (.ref 76), some (.int x1)], [.int (I 86 (Int32.toNatClampNeg z_0))], (iq_sh l, I, J, X)) r_ → iq_Gg 4 249 (166, [some (.ref 76), some (.int x1)], [.int z_0, .ref 86], (iq_sh l, I, J, X)) r_ := fun z_0 r_ hc_ hg_ => iq_G_pos (c := iq_in z_0 3) (σ1 := (167, [some (.ref 76), some (.int x1)], [.int (I 86 (Int32.toNatClampNeg z_0))], (iq_sh l, I, J, X))) (fun _ => rfl) hc_ hg_
  refine st_ (x1 - (9 : Int32)) _ hc_ ?_
  clear st_
  cases h
  exact iq_G_ret (fun _ => rfl)
set_option maxRecDepth 100000 in
theorem zM_count_153_ok (l : Nat)   (I : iq_I) (J : iq_J) (X : iq_X)  {q : Int32 × iq_I} (h : zM_count_153 I = some q)  : iq_Gg 4 249 (153, [some (.ref 76), none], [], (iq_sh l, I, J, X)) (.inl (some (.int q.1)), (iq_sh l, q.2, J, X)) := by
  unfold zM_count_153 at h
  refine iq_G_go (k := 1) (σ' := (154, [some (.ref 76), none], [.ref 76], (iq_sh l, I, J, X))) (fun _ => rfl) ?_
  obtain ⟨q4, hq4, h⟩ := iq_bnd h
  refine iq_G_call (σ' := (157, [some (.ref 76), none], [.int q4], (iq_sh l, I, J, X))) (fun _ => rfl) (zM_broken_ok l  I J X hq4) rfl rfl ?_
  cases h
  exact iq_G_ret (fun _ => rfl)
set_option maxRecDepth 100000 in
theorem zM_count_101_ok (l : Nat)   (I : iq_I) (J : iq_J) (X : iq_X)  {q : Int32 × iq_I} (h : zM_count_101 I = some q)  : iq_Gg 4 249 (101, [some (.ref 76), none], [], (iq_sh l, I, J, X)) (.inl (some (.int q.1)), (iq_sh l, q.2, J, X)) := by
  unfold zM_count_101 at h
  refine iq_G_go (k := 1) (σ' := (102, [some (.ref 76), none], [.ref 76], (iq_sh l, I, J, X))) (fun _ => rfl) ?_
  obtain ⟨q5, hq5, h⟩ := iq_bnd h
  refine iq_G_call (σ' := (105, [some (.ref 76), none], [.int q5], (iq_sh l, I, J, X))) (fun _ => rfl) (zM_longestOf_ok l  I J X hq5) rfl rfl ?_
  cases h
  exact iq_G_ret (fun _ => rfl)
set_option maxRecDepth 100000 in
theorem zM_count_ok (l : Nat)  (x1 : Int32) (I : iq_I) (J : iq_J) (X : iq_X) {q : Int32 × iq_I} (h : zM_count x1 I = some q) : iq_Cc 5 249 [.ref 76, .int x1] (iq_sh l, I, J, X) (.inl (some (.int q.1)), (iq_sh l, q.2, J, X)) := by
  refine iq_Cc_of (L := [some (.ref 76), some (.int x1)]) rfl rfl ?_
  unfold zM_count at h
  refine iq_G_go (k := 2) (σ' := (2, [some (.ref 76), some (.int x1)], [.int (0 : Int32), .ref 76], (iq_sh l, I, J, X))) (fun _ => rfl) ?_
  refine iq_G_go (k := 1) (σ' := (5, [some (.ref 76), some (.int x1)], [], (iq_sh l, (iq_upI I 76 0 (0 : Int32)), J, X))) (fun _ => rfl) ?_
  obtain ⟨I1, eI1, h⟩ := ir_letG h
  rw [← eI1]
  clear eI1
  refine iq_G_go (k := 4) (σ' := (10, [some (.ref 76), some (.int x1)], [.int (14 : Int32), .int (0 : Int32), .int x1, .ref 76], (iq_sh l, I1, J, X))) (fun _ => rfl) ?_
  obtain ⟨q2, hq2, h⟩ := iq_bnd h
  refine iq_G_call (σ' := (13, [some (.ref 76), some (.int x1)], [.int q2, .ref 76], (iq_sh l, I1, J, X))) (fun _ => rfl) (zM_within_ok l x1 (0 : Int32) (14 : Int32) I1 J X hq2) rfl rfl ?_
  refine iq_G_go (k := 1) (σ' := (14, [some (.ref 76), some (.int x1)], [.int (1 : Int32), .int q2, .ref 76], (iq_sh l, I1, J, X))) (fun _ => rfl) ?_
  obtain ⟨q3, hq3, h⟩ := iq_bnd h
  refine iq_G_call (σ' := (17, [some (.ref 76), some (.int x1)], [.int q3.1], (iq_sh l, q3.2, J, X))) (fun _ => rfl) (zM_right_ok l q2 (1 : Int32) I1 J X hq3) rfl rfl ?_
  rcases iq_ite h with ⟨hc_, h⟩ | ⟨hc_, h⟩
  · refine iq_G_pos (c := ¬ q3.1 = 0) (σ1 := (22, [some (.ref 76), some (.int x1)], [], (iq_sh l, q3.2, J, X))) (fun _ => rfl) hc_ ?_
    refine iq_G_go (k := 1) (σ' := (23, [some (.ref 76), some (.int x1)], [.int x1], (iq_sh l, q3.2, J, X))) (fun _ => rfl) ?_
    rcases iq_ite h with ⟨e0, h⟩ | ⟨n0, h⟩
    · refine iq_G_sw (σ' := (106, [some (.ref 76), some (.int x1)], [], (iq_sh l, q3.2, J, X))) (fun _ => rfl) (by rw [e0]; rfl) ?_
      refine iq_G_go (k := 2) (σ' := (110, [some (.ref 76), some (.int x1)], [.int (q3.2 76 1)], (iq_sh l, q3.2, J, X))) (fun _ => rfl) ?_
      cases h
      exact iq_G_ret (fun _ => rfl)
    rcases iq_ite h with ⟨e1, h⟩ | ⟨n1, h⟩
    · refine iq_G_sw (σ' := (111, [some (.ref 76), some (.int x1)], [], (iq_sh l, q3.2, J, X))) (fun _ => rfl) (by rw [e1]; rfl) ?_
      refine iq_G_go (k := 2) (σ' := (115, [some (.ref 76), some (.int x1)], [.int (q3.2 76 2)], (iq_sh l, q3.2, J, X))) (fun _ => rfl) ?_
      cases h
      exact iq_G_ret (fun _ => rfl)
    rcases iq_ite h with ⟨e2, h⟩ | ⟨n2, h⟩
    · refine iq_G_sw (σ' := (116, [some (.ref 76), some (.int x1)], [], (iq_sh l, q3.2, J, X))) (fun _ => rfl) (by rw [e2]; rfl) ?_
      refine iq_G_go (k := 2) (σ' := (120, [some (.ref 76), some (.int x1)], [.int (q3.2 76 3)], (iq_sh l, q3.2, J, X))) (fun _ => rfl) ?_
      cases h
      exact iq_G_ret (fun _ => rfl)
    rcases iq_ite h with ⟨e3, h⟩ | ⟨n3, h⟩
    · refine iq_G_sw (σ' := (121, [some (.ref 76), some (.int x1)], [], (iq_sh l, q3.2, J, X))) (fun _ => rfl) (by rw [e3]; rfl) ?_
      refine iq_G_go (k := 2) (σ' := (125, [some (.ref 76), some (.int x1)], [.int (q3.2 76 5)], (iq_sh l, q3.2, J, X))) (fun _ => rfl) ?_
      cases h
      exact iq_G_ret (fun _ => rfl)
    rcases iq_ite h with ⟨e4, h⟩ | ⟨n4, h⟩
    · refine iq_G_sw (σ' := (126, [some (.ref 76), some (.int x1)], [], (iq_sh l, q3.2, J, X))) (fun _ => rfl) (by rw [e4]; rfl) ?_
      refine iq_G_go (k := 2) (σ' := (130, [some (.ref 76), some (.int x1)], [.int (q3.2 76 4)], (iq_sh l, q3.2, J, X))) (fun _ => rfl) ?_
      cases h
      exact iq_G_ret (fun _ => rfl)
    rcases iq_ite h with ⟨e5, h⟩ | ⟨n5, h⟩
    · refine iq_G_sw (σ' := (131, [some (.ref 76), some (.int x1)], [], (iq_sh l, q3.2, J, X))) (fun _ => rfl) (by rw [e5]; rfl) ?_
      exact iq_G_fg (L := [some (.ref 76), none]) (And.intro rfl trivial) (zM_count_131_ok l q3.2 J X  h )
    rcases iq_ite h with ⟨e6, h⟩ | ⟨n6, h⟩
    · refine iq_G_sw (σ' := (138, [some (.ref 76), some (.int x1)], [], (iq_sh l, q3.2, J, X))) (fun _ => rfl) (by rw [e6]; rfl) ?_
      refine iq_G_go (k := 2) (σ' := (142, [some (.ref 76), some (.int x1)], [.int (q3.2 76 54)], (iq_sh l, q3.2, J, X))) (fun _ => rfl) ?_
      cases h
      exact iq_G_ret (fun _ => rfl)
    rcases iq_ite h with ⟨e7, h⟩ | ⟨n7, h⟩
    · refine iq_G_sw (σ' := (143, [some (.ref 76), some (.int x1)], [], (iq_sh l, q3.2, J, X))) (fun _ => rfl) (by rw [e7]; rfl) ?_
      refine iq_G_go (k := 2) (σ' := (147, [some (.ref 76), some (.int x1)], [.int (q3.2 76 63)], (iq_sh l, q3.2, J, X))) (fun _ => rfl) ?_
      cases h
      exact iq_G_ret (fun _ => rfl)
    rcases iq_ite h with ⟨e8, h⟩ | ⟨n8, h⟩
    · refine iq_G_sw (σ' := (148, [some (.ref 76), some (.int x1)], [], (iq_sh l, q3.2, J, X))) (fun _ => rfl) (by rw [e8]; rfl) ?_
      refine iq_G_go (k := 2) (σ' := (152, [some (.ref 76), some (.int x1)], [.int (q3.2 76 17)], (iq_sh l, q3.2, J, X))) (fun _ => rfl) ?_
      cases h
      exact iq_G_ret (fun _ => rfl)
    rcases iq_ite h with ⟨e9, h⟩ | ⟨n9, h⟩
    · refine iq_G_sw (σ' := (158, [some (.ref 76), some (.int x1)], [], (iq_sh l, q3.2, J, X))) (fun _ => rfl) (by rw [e9]; rfl) ?_
      exact iq_G_fg (L := [some (.ref 76), some (.int x1)]) (And.intro rfl (And.intro rfl trivial)) (zM_count_158_ok l x1 q3.2 J X  h )
    rcases iq_ite h with ⟨e10, h⟩ | ⟨n10, h⟩
    · refine iq_G_sw (σ' := (158, [some (.ref 76), some (.int x1)], [], (iq_sh l, q3.2, J, X))) (fun _ => rfl) (by rw [e10]; rfl) ?_
      exact iq_G_fg (L := [some (.ref 76), some (.int x1)]) (And.intro rfl (And.intro rfl trivial)) (zM_count_158_ok l x1 q3.2 J X  h )
    rcases iq_ite h with ⟨e11, h⟩ | ⟨n11, h⟩
    · refine iq_G_sw (σ' := (158, [some (.ref 76), some (.int x1)], [], (iq_sh l, q3.2, J, X))) (fun _ => rfl) (by rw [e11]; rfl) ?_
      exact iq_G_fg (L := [some (.ref 76), some (.int x1)]) (And.intro rfl (And.intro rfl trivial)) (zM_count_158_ok l x1 q3.2 J X  h )
    rcases iq_ite h with ⟨e12, h⟩ | ⟨n12, h⟩
    · refine iq_G_sw (σ' := (153, [some (.ref 76), some (.int x1)], [], (iq_sh l, q3.2, J, X))) (fun _ => rfl) (by rw [e12]; rfl) ?_
      exact iq_G_fg (L := [some (.ref 76), none]) (And.intro rfl trivial) (zM_count_153_ok l q3.2 J X  h )
    rcases iq_ite h with ⟨e13, h⟩ | ⟨n13, h⟩
    · refine iq_G_sw (σ' := (96, [some (.ref 76), some (.int x1)], [], (iq_sh l, q3.2, J, X))) (fun _ => rfl) (by rw [e13]; rfl) ?_
      refine iq_G_go (k := 2) (σ' := (100, [some (.ref 76), some (.int x1)], [.int (q3.2 76 7)], (iq_sh l, q3.2, J, X))) (fun _ => rfl) ?_
      cases h
      exact iq_G_ret (fun _ => rfl)
    rcases iq_ite h with ⟨e14, h⟩ | ⟨n14, h⟩
    · refine iq_G_sw (σ' := (101, [some (.ref 76), some (.int x1)], [], (iq_sh l, q3.2, J, X))) (fun _ => rfl) (by rw [e14]; rfl) ?_
      exact iq_G_fg (L := [some (.ref 76), none]) (And.intro rfl trivial) (zM_count_101_ok l q3.2 J X  h )
    refine iq_G_sw (σ' := (158, [some (.ref 76), some (.int x1)], [], (iq_sh l, q3.2, J, X))) (fun _ => rfl) ((Eq.trans (ir_swn n0 rfl) (Eq.trans (ir_swn n1 rfl) (Eq.trans (ir_swn n2 rfl) (Eq.trans (ir_swn n3 rfl) (Eq.trans (ir_swn n4 rfl) (Eq.trans (ir_swn n5 rfl) (Eq.trans (ir_swn n6 rfl) (Eq.trans (ir_swn n7 rfl) (Eq.trans (ir_swn n8 rfl) (Eq.trans (ir_swn n9 rfl) (Eq.trans (ir_swn n10 rfl) (Eq.trans (ir_swn n11 rfl) (Eq.trans (ir_swn n12 rfl) (Eq.trans (ir_swn n13 rfl) (Eq.trans (ir_swn n14 rfl) rfl)))))))))))))))) ?_
    exact iq_G_fg (L := [some (.ref 76), some (.int x1)]) (And.intro rfl (And.intro rfl trivial)) (zM_count_158_ok l x1 q3.2 J X  h )
  · refine iq_G_neg (c := ¬ q3.1 = 0) (σ1 := (20, [some (.ref 76), some (.int x1)], [], (iq_sh l, q3.2, J, X))) (fun _ => rfl) hc_ ?_
    refine iq_G_go (k := 1) (σ' := (21, [some (.ref 76), some (.int x1)], [.int (0 : Int32)], (iq_sh l, q3.2, J, X))) (fun _ => rfl) ?_
    cases h
    exact iq_G_ret (fun _ => rfl)
set_option maxRecDepth 100000 in
theorem zO_fault_ok (l : Nat)   (I : iq_I) (J : iq_J) (X : iq_X) {q : Int32} (h : zO_fault I = some q) : iq_Cc 1 151 [.ref 1] (iq_sh l, I, J, X) (.inl (some (.int q)), (iq_sh l, I, J, X)) := by
  refine iq_Cc_of (L := [some (.ref 1)]) rfl rfl ?_
  unfold zO_fault at h
  refine iq_G_go (k := 2) (σ' := (4, [some (.ref 1)], [.int (I 1 12)], (iq_sh l, I, J, X))) (fun _ => rfl) ?_
  cases h
  exact iq_G_ret (fun _ => rfl)
set_option maxRecDepth 100000 in
theorem zM_fault_ok (l : Nat)   (I : iq_I) (J : iq_J) (X : iq_X) {q : Int32 × iq_I} (h : zM_fault I = some q) : iq_Cc 1 239 [.ref 76] (iq_sh l, I, J, X) (.inl (some (.int q.1)), (iq_sh l, q.2, J, X)) := by
  refine iq_Cc_of (L := [some (.ref 76)]) rfl rfl ?_
  unfold zM_fault at h
  refine iq_G_go (k := 2) (σ' := (2, [some (.ref 76)], [.int (0 : Int32), .ref 76], (iq_sh l, I, J, X))) (fun _ => rfl) ?_
  refine iq_G_go (k := 1) (σ' := (5, [some (.ref 76)], [], (iq_sh l, (iq_upI I 76 0 (0 : Int32)), J, X))) (fun _ => rfl) ?_
  obtain ⟨I1, eI1, h⟩ := ir_letG h
  rw [← eI1]
  clear eI1
  refine iq_G_go (k := 2) (σ' := (9, [some (.ref 76)], [.int (I1 76 19)], (iq_sh l, I1, J, X))) (fun _ => rfl) ?_
  cases h
  exact iq_G_ret (fun _ => rfl)
set_option maxRecDepth 100000 in
theorem zS_J7_fill_53178_41_l5_bok (l : Nat)  (x1 : Int32) (x3 : Int32) (J : iq_J) (X : iq_X) (x2 : Int32) (I : iq_I) {q : (Int32 × iq_I) ⊕ (iq_I)} (h : zS_J7_fill_53178_41_l5_b x1 x3 x2 I = some q) (r : iq_R × iq_M) (hc : ∀ v, q = .inl v → iq_Gg 0 323 (5, [some (.ref 41), some (.int x1), some (.int v.1), some (.int x3)], [], (iq_sh l, v.2, J, X)) r) (hx : ∀ w, q = .inr w → iq_Gg 0 323 (20, [none, none, none, none], [], (iq_sh l, w, J, X)) r) : iq_Gg 0 323 (5, [some (.ref 41), some (.int x1), some (.int x2), some (.int x3)], [], (iq_sh l, I, J, X)) r := by
  unfold zS_J7_fill_53178_41_l5_b at h
  refine iq_G_go (k := 2) (σ' := (7, [some (.ref 41), some (.int x1), some (.int x2), some (.int x3)], [.int x3, .int x2], (iq_sh l, I, J, X))) (fun _ => rfl) ?_
  rcases iq_ite h with ⟨hc_, h⟩ | ⟨hc_, h⟩
  · refine iq_G_pos (c := x3 ≤ x2) (σ1 := (20, [some (.ref 41), some (.int x1), some (.int x2), some (.int x3)], [], (iq_sh l, I, J, X))) (fun _ => rfl) hc_ ?_
    cases h
    exact iq_G_fg (L := [none, none, none, none]) trivial (hx I rfl)
  · refine iq_G_neg (c := x3 ≤ x2) (σ1 := (10, [some (.ref 41), some (.int x1), some (.int x2), some (.int x3)], [], (iq_sh l, I, J, X))) (fun _ => rfl) hc_ ?_
    refine iq_G_go (k := 3) (σ' := (13, [some (.ref 41), some (.int x1), some (.int x2), some (.int x3)], [.int x1, .int x2, .ref 41], (iq_sh l, I, J, X))) (fun _ => rfl) ?_
    obtain ⟨hc_, h⟩ := iq_itn h
    refine iq_G_pos (c := iq_in x2 8) (σ1 := (14, [some (.ref 41), some (.int x1), some (.int x2), some (.int x3)], [], (iq_sh l, (iq_upI I 41 (Int32.toNatClampNeg x2) x1), J, X))) (fun _ => rfl) hc_ ?_
    obtain ⟨I1, eI1, h⟩ := ir_letG h
    rw [← eI1]
    clear eI1
    refine iq_G_go (k := 2) (σ' := (5, [some (.ref 41), some (.int x1), some (.int (x2 + (1 : Int32))), some (.int x3)], [], (iq_sh l, I1, J, X))) (fun _ => rfl) ?_
    cases h
    exact iq_G_fg (L := [some (.ref 41), some (.int x1), some (.int (x2 + (1 : Int32))), some (.int x3)]) (And.intro rfl (And.intro rfl (And.intro rfl (And.intro rfl trivial)))) (hc ((x2 + (1 : Int32)), I1) rfl)
set_option maxRecDepth 100000 in
theorem zS_J7_fill_53178_41_l5_ok (l : Nat)  (x1 : Int32) (x3 : Int32) (J : iq_J) (X : iq_X) {n : Nat} {v : Int32 × iq_I} {w : iq_I} (h : zS_J7_fill_53178_41_l5 x1 x3 n v = some w) (r : iq_R × iq_M) (hq : iq_Gg 0 323 (20, [none, none, none, none], [], (iq_sh l, w, J, X)) r) : iq_Gg 0 323 (5, [some (.ref 41), some (.int x1), some (.int v.1), some (.int x3)], [], (iq_sh l, v.2, J, X)) r :=
  iq_lp_ok (σ := fun v => (5, [some (.ref 41), some (.int x1), some (.int v.1), some (.int x3)], [], (iq_sh l, v.2, J, X))) (Q := fun w r => iq_Gg 0 323 (20, [none, none, none, none], [], (iq_sh l, w, J, X)) r) (fun v q hv r h1 h2 => zS_J7_fill_53178_41_l5_bok l x1 x3 J X v.1 v.2 hv r h1 h2) h r hq
set_option maxRecDepth 100000 in
theorem zS_J7_fill_53178_41_ok (l : Nat)  (x1 : Int32) (I : iq_I) (J : iq_J) (X : iq_X) {q : iq_I} (h : zS_J7_fill_53178_41 x1 I = some q) : iq_Cc 1 323 [.ref 41, .int x1] (iq_sh l, I, J, X) (.inl none, (iq_sh l, q, J, X)) := by
  refine iq_Cc_of (L := [some (.ref 41), some (.int x1), none, none]) rfl rfl ?_
  unfold zS_J7_fill_53178_41 at h
  refine iq_G_go (k := 5) (σ' := (5, [some (.ref 41), some (.int x1), some (.int (0 : Int32)), some (.int (8 : Int32))], [], (iq_sh l, I, J, X))) (fun _ => rfl) ?_
  obtain ⟨w2, hw2, h⟩ := iq_bnd h
  refine iq_G_fg (L := [some (.ref 41), some (.int x1), some (.int (0 : Int32)), some (.int (8 : Int32))]) (And.intro rfl (And.intro rfl (And.intro rfl (And.intro rfl trivial)))) ?_
  refine zS_J7_fill_53178_41_l5_ok l x1 (8 : Int32) J X hw2 _ ?_
  show iq_Gg 0 323 (20, [none, none, none, none], [], (iq_sh l, w2, J, X)) _
  cases h
  exact iq_G_ret (fun _ => rfl)
set_option maxRecDepth 100000 in
theorem zS_J7_fill_53178_48_l5_bok (l : Nat)  (x1 : Int32) (x3 : Int32) (J : iq_J) (X : iq_X) (x2 : Int32) (I : iq_I) {q : (Int32 × iq_I) ⊕ (iq_I)} (h : zS_J7_fill_53178_48_l5_b x1 x3 x2 I = some q) (r : iq_R × iq_M) (hc : ∀ v, q = .inl v → iq_Gg 0 323 (5, [some (.ref 48), some (.int x1), some (.int v.1), some (.int x3)], [], (iq_sh l, v.2, J, X)) r) (hx : ∀ w, q = .inr w → iq_Gg 0 323 (20, [none, none, none, none], [], (iq_sh l, w, J, X)) r) : iq_Gg 0 323 (5, [some (.ref 48), some (.int x1), some (.int x2), some (.int x3)], [], (iq_sh l, I, J, X)) r := by
  unfold zS_J7_fill_53178_48_l5_b at h
  refine iq_G_go (k := 2) (σ' := (7, [some (.ref 48), some (.int x1), some (.int x2), some (.int x3)], [.int x3, .int x2], (iq_sh l, I, J, X))) (fun _ => rfl) ?_
  rcases iq_ite h with ⟨hc_, h⟩ | ⟨hc_, h⟩
  · refine iq_G_pos (c := x3 ≤ x2) (σ1 := (20, [some (.ref 48), some (.int x1), some (.int x2), some (.int x3)], [], (iq_sh l, I, J, X))) (fun _ => rfl) hc_ ?_
    cases h
    exact iq_G_fg (L := [none, none, none, none]) trivial (hx I rfl)
  · refine iq_G_neg (c := x3 ≤ x2) (σ1 := (10, [some (.ref 48), some (.int x1), some (.int x2), some (.int x3)], [], (iq_sh l, I, J, X))) (fun _ => rfl) hc_ ?_
    refine iq_G_go (k := 3) (σ' := (13, [some (.ref 48), some (.int x1), some (.int x2), some (.int x3)], [.int x1, .int x2, .ref 48], (iq_sh l, I, J, X))) (fun _ => rfl) ?_
    obtain ⟨hc_, h⟩ := iq_itn h
    refine iq_G_pos (c := iq_in x2 80) (σ1 := (14, [some (.ref 48), some (.int x1), some (.int x2), some (.int x3)], [], (iq_sh l, (iq_upI I 48 (Int32.toNatClampNeg x2) x1), J, X))) (fun _ => rfl) hc_ ?_
    obtain ⟨I1, eI1, h⟩ := ir_letG h
    rw [← eI1]
    clear eI1
    refine iq_G_go (k := 2) (σ' := (5, [some (.ref 48), some (.int x1), some (.int (x2 + (1 : Int32))), some (.int x3)], [], (iq_sh l, I1, J, X))) (fun _ => rfl) ?_
    cases h
    exact iq_G_fg (L := [some (.ref 48), some (.int x1), some (.int (x2 + (1 : Int32))), some (.int x3)]) (And.intro rfl (And.intro rfl (And.intro rfl (And.intro rfl trivial)))) (hc ((x2 + (1 : Int32)), I1) rfl)
set_option maxRecDepth 100000 in
theorem zS_J7_fill_53178_48_l5_ok (l : Nat)  (x1 : Int32) (x3 : Int32) (J : iq_J) (X : iq_X) {n : Nat} {v : Int32 × iq_I} {w : iq_I} (h : zS_J7_fill_53178_48_l5 x1 x3 n v = some w) (r : iq_R × iq_M) (hq : iq_Gg 0 323 (20, [none, none, none, none], [], (iq_sh l, w, J, X)) r) : iq_Gg 0 323 (5, [some (.ref 48), some (.int x1), some (.int v.1), some (.int x3)], [], (iq_sh l, v.2, J, X)) r :=
  iq_lp_ok (σ := fun v => (5, [some (.ref 48), some (.int x1), some (.int v.1), some (.int x3)], [], (iq_sh l, v.2, J, X))) (Q := fun w r => iq_Gg 0 323 (20, [none, none, none, none], [], (iq_sh l, w, J, X)) r) (fun v q hv r h1 h2 => zS_J7_fill_53178_48_l5_bok l x1 x3 J X v.1 v.2 hv r h1 h2) h r hq
set_option maxRecDepth 100000 in
theorem zS_J7_fill_53178_48_ok (l : Nat)  (x1 : Int32) (I : iq_I) (J : iq_J) (X : iq_X) {q : iq_I} (h : zS_J7_fill_53178_48 x1 I = some q) : iq_Cc 1 323 [.ref 48, .int x1] (iq_sh l, I, J, X) (.inl none, (iq_sh l, q, J, X)) := by
  refine iq_Cc_of (L := [some (.ref 48), some (.int x1), none, none]) rfl rfl ?_
  unfold zS_J7_fill_53178_48 at h
  refine iq_G_go (k := 5) (σ' := (5, [some (.ref 48), some (.int x1), some (.int (0 : Int32)), some (.int (80 : Int32))], [], (iq_sh l, I, J, X))) (fun _ => rfl) ?_
  obtain ⟨w2, hw2, h⟩ := iq_bnd h
  refine iq_G_fg (L := [some (.ref 48), some (.int x1), some (.int (0 : Int32)), some (.int (80 : Int32))]) (And.intro rfl (And.intro rfl (And.intro rfl (And.intro rfl trivial)))) ?_
  refine zS_J7_fill_53178_48_l5_ok l x1 (80 : Int32) J X hw2 _ ?_
  show iq_Gg 0 323 (20, [none, none, none, none], [], (iq_sh l, w2, J, X)) _
  cases h
  exact iq_G_ret (fun _ => rfl)
set_option maxRecDepth 100000 in
theorem zS_J7_fill_53178_49_l5_bok (l : Nat)  (x1 : Int32) (x3 : Int32) (J : iq_J) (X : iq_X) (x2 : Int32) (I : iq_I) {q : (Int32 × iq_I) ⊕ (iq_I)} (h : zS_J7_fill_53178_49_l5_b x1 x3 x2 I = some q) (r : iq_R × iq_M) (hc : ∀ v, q = .inl v → iq_Gg 0 323 (5, [some (.ref 49), some (.int x1), some (.int v.1), some (.int x3)], [], (iq_sh l, v.2, J, X)) r) (hx : ∀ w, q = .inr w → iq_Gg 0 323 (20, [none, none, none, none], [], (iq_sh l, w, J, X)) r) : iq_Gg 0 323 (5, [some (.ref 49), some (.int x1), some (.int x2), some (.int x3)], [], (iq_sh l, I, J, X)) r := by
  unfold zS_J7_fill_53178_49_l5_b at h
  refine iq_G_go (k := 2) (σ' := (7, [some (.ref 49), some (.int x1), some (.int x2), some (.int x3)], [.int x3, .int x2], (iq_sh l, I, J, X))) (fun _ => rfl) ?_
  rcases iq_ite h with ⟨hc_, h⟩ | ⟨hc_, h⟩
  · refine iq_G_pos (c := x3 ≤ x2) (σ1 := (20, [some (.ref 49), some (.int x1), some (.int x2), some (.int x3)], [], (iq_sh l, I, J, X))) (fun _ => rfl) hc_ ?_
    cases h
    exact iq_G_fg (L := [none, none, none, none]) trivial (hx I rfl)
  · refine iq_G_neg (c := x3 ≤ x2) (σ1 := (10, [some (.ref 49), some (.int x1), some (.int x2), some (.int x3)], [], (iq_sh l, I, J, X))) (fun _ => rfl) hc_ ?_
    refine iq_G_go (k := 3) (σ' := (13, [some (.ref 49), some (.int x1), some (.int x2), some (.int x3)], [.int x1, .int x2, .ref 49], (iq_sh l, I, J, X))) (fun _ => rfl) ?_
    obtain ⟨hc_, h⟩ := iq_itn h
    refine iq_G_pos (c := iq_in x2 8) (σ1 := (14, [some (.ref 49), some (.int x1), some (.int x2), some (.int x3)], [], (iq_sh l, (iq_upI I 49 (Int32.toNatClampNeg x2) x1), J, X))) (fun _ => rfl) hc_ ?_
    obtain ⟨I1, eI1, h⟩ := ir_letG h
    rw [← eI1]
    clear eI1
    refine iq_G_go (k := 2) (σ' := (5, [some (.ref 49), some (.int x1), some (.int (x2 + (1 : Int32))), some (.int x3)], [], (iq_sh l, I1, J, X))) (fun _ => rfl) ?_
    cases h
    exact iq_G_fg (L := [some (.ref 49), some (.int x1), some (.int (x2 + (1 : Int32))), some (.int x3)]) (And.intro rfl (And.intro rfl (And.intro rfl (And.intro rfl trivial)))) (hc ((x2 + (1 : Int32)), I1) rfl)
set_option maxRecDepth 100000 in
theorem zS_J7_fill_53178_49_l5_ok (l : Nat)  (x1 : Int32) (x3 : Int32) (J : iq_J) (X : iq_X) {n : Nat} {v : Int32 × iq_I} {w : iq_I} (h : zS_J7_fill_53178_49_l5 x1 x3 n v = some w) (r : iq_R × iq_M) (hq : iq_Gg 0 323 (20, [none, none, none, none], [], (iq_sh l, w, J, X)) r) : iq_Gg 0 323 (5, [some (.ref 49), some (.int x1), some (.int v.1), some (.int x3)], [], (iq_sh l, v.2, J, X)) r :=
  iq_lp_ok (σ := fun v => (5, [some (.ref 49), some (.int x1), some (.int v.1), some (.int x3)], [], (iq_sh l, v.2, J, X))) (Q := fun w r => iq_Gg 0 323 (20, [none, none, none, none], [], (iq_sh l, w, J, X)) r) (fun v q hv r h1 h2 => zS_J7_fill_53178_49_l5_bok l x1 x3 J X v.1 v.2 hv r h1 h2) h r hq
set_option maxRecDepth 100000 in
theorem zS_J7_fill_53178_49_ok (l : Nat)  (x1 : Int32) (I : iq_I) (J : iq_J) (X : iq_X) {q : iq_I} (h : zS_J7_fill_53178_49 x1 I = some q) : iq_Cc 1 323 [.ref 49, .int x1] (iq_sh l, I, J, X) (.inl none, (iq_sh l, q, J, X)) := by
  refine iq_Cc_of (L := [some (.ref 49), some (.int x1), none, none]) rfl rfl ?_
  unfold zS_J7_fill_53178_49 at h
  refine iq_G_go (k := 5) (σ' := (5, [some (.ref 49), some (.int x1), some (.int (0 : Int32)), some (.int (8 : Int32))], [], (iq_sh l, I, J, X))) (fun _ => rfl) ?_
  obtain ⟨w2, hw2, h⟩ := iq_bnd h
  refine iq_G_fg (L := [some (.ref 49), some (.int x1), some (.int (0 : Int32)), some (.int (8 : Int32))]) (And.intro rfl (And.intro rfl (And.intro rfl (And.intro rfl trivial)))) ?_
  refine zS_J7_fill_53178_49_l5_ok l x1 (8 : Int32) J X hw2 _ ?_
  show iq_Gg 0 323 (20, [none, none, none, none], [], (iq_sh l, w2, J, X)) _
  cases h
  exact iq_G_ret (fun _ => rfl)

