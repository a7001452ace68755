/-! ===== the abstract machine does the same (printed by wip/whole/emitall.py, split.py) ===== -/
set_option maxRecDepth 100000 in
theorem zR_canBeginExpr_ok (l : Nat)   (I : iq_I) (J : iq_J) (X : iq_X) {q : Int32} (h : zR_canBeginExpr I = some q) : iq_Cc 2 99 [.ref 61] (iq_sh l, I, J, X) (.inl (some (.int q)), (iq_sh l, I, J, X)) := by
  refine iq_Cc_of (L := [some (.ref 61)]) rfl rfl ?_
  unfold zR_canBeginExpr at h
  refine iq_G_go (k := 4) (σ' := (8, [some (.ref 61)], [.int (2 : Int32), .int (I 62 0)], (iq_sh l, I, J, X))) (fun _ => rfl) ?_
  rcases iq_ite h with ⟨hc_, h⟩ | ⟨hc_, h⟩
  · refine iq_G_pos (c := (I 62 0) = (2 : Int32)) (σ1 := (34, [some (.ref 61)], [], (iq_sh l, I, J, X))) (fun _ => rfl) hc_ ?_
    refine iq_G_go (k := 2) (σ' := (39, [some (.ref 61)], [.int (1 : Int32)], (iq_sh l, I, J, X))) (fun _ => rfl) ?_
    cases h
    exact iq_G_ret (fun _ => rfl)
  · refine iq_G_neg (c := (I 62 0) = (2 : Int32)) (σ1 := (11, [some (.ref 61)], [], (iq_sh l, I, J, X))) (fun _ => rfl) hc_ ?_
    refine iq_G_go (k := 4) (σ' := (19, [some (.ref 61)], [.int (1 : Int32), .int (I 62 0)], (iq_sh l, I, J, X))) (fun _ => rfl) ?_
    rcases iq_ite h with ⟨hc_, h⟩ | ⟨hc_, h⟩
    · refine iq_G_pos (c := (I 62 0) = (1 : Int32)) (σ1 := (34, [some (.ref 61)], [], (iq_sh l, I, J, X))) (fun _ => rfl) hc_ ?_
      refine iq_G_go (k := 2) (σ' := (39, [some (.ref 61)], [.int (1 : Int32)], (iq_sh l, I, J, X))) (fun _ => rfl) ?_
      cases h
      exact iq_G_ret (fun _ => rfl)
    · refine iq_G_neg (c := (I 62 0) = (1 : Int32)) (σ1 := (22, [some (.ref 61)], [], (iq_sh l, I, J, X))) (fun _ => rfl) hc_ ?_
      refine iq_G_go (k := 3) (σ' := (28, [some (.ref 61)], [.int (40 : Int32), .ref 62], (iq_sh l, I, J, X))) (fun _ => rfl) ?_
      obtain ⟨q1, hq1, h⟩ := iq_bnd h
      refine iq_G_call (σ' := (31, [some (.ref 61)], [.int q1], (iq_sh l, I, J, X))) (fun _ => rfl) (zT_isSign_ok l (40 : Int32) I J X hq1) rfl rfl ?_
      rcases iq_ite h with ⟨hc_, h⟩ | ⟨hc_, h⟩
      · refine iq_G_pos (c := q1 = 0) (σ1 := (38, [some (.ref 61)], [], (iq_sh l, I, J, X))) (fun _ => rfl) hc_ ?_
        refine iq_G_go (k := 1) (σ' := (39, [some (.ref 61)], [.int (0 : Int32)], (iq_sh l, I, J, X))) (fun _ => rfl) ?_
        cases h
        exact iq_G_ret (fun _ => rfl)
      · refine iq_G_neg (c := q1 = 0) (σ1 := (34, [some (.ref 61)], [], (iq_sh l, I, J, X))) (fun _ => rfl) hc_ ?_
        refine iq_G_go (k := 2) (σ' := (39, [some (.ref 61)], [.int (1 : Int32)], (iq_sh l, I, J, X))) (fun _ => rfl) ?_
        cases h
        exact iq_G_ret (fun _ => rfl)
set_option maxRecDepth 100000 in
theorem zS_J0_coder_7d493_5009_ok (l : Nat)   (I : iq_I) (J : iq_J) (X : iq_X) {q : Int32} (h : zS_J0_coder_7d493_5009 I = some q) : iq_Cc 1 316 [.ref 5009] (iq_sh l, I, J, X) (.inl (some (.int q)), (iq_sh l, I, J, X)) := by
  refine iq_Cc_of (L := [some (.ref 5009)]) rfl rfl ?_
  unfold zS_J0_coder_7d493_5009 at h
  refine iq_G_go (k := 1) (σ' := (3, [some (.ref 5009)], [.int (1 : Int32)], (iq_sh l, I, J, X))) (fun _ => rfl) ?_
  refine iq_G_go (k := 1) (σ' := (6, [some (.ref 5009)], [], (iq_sh l, I, J, X))) (fun _ => rfl) ?_
  refine iq_G_go (k := 3) (σ' := (14, [some (.ref 5009)], [.int (0 : Int32)], (iq_sh l, I, J, X))) (fun _ => rfl) ?_
  cases h
  exact iq_G_ret (fun _ => rfl)
set_option maxRecDepth 100000 in
theorem zS_J0_length_8abf5_5009_ok (l : Nat)   (I : iq_I) (J : iq_J) (X : iq_X) {q : Int32} (h : zS_J0_length_8abf5_5009 I = some q) : iq_Cc 2 312 [.ref 5009] (iq_sh l, I, J, X) (.inl (some (.int q)), (iq_sh l, I, J, X)) := by
  refine iq_Cc_of (L := [some (.ref 5009)]) rfl rfl ?_
  unfold zS_J0_length_8abf5_5009 at h
  refine iq_G_go (k := 4) (σ' := (6, [some (.ref 5009)], [.ref 5009, .int (3 : Int32)], (iq_sh l, I, J, X))) (fun _ => rfl) ?_
  obtain ⟨q1, hq1, h⟩ := iq_bnd h
  refine iq_G_call (σ' := (9, [some (.ref 5009)], [.int q1, .int (3 : Int32)], (iq_sh l, I, J, X))) (fun _ => rfl) (zS_J0_coder_7d493_5009_ok l  I J X hq1) rfl rfl ?_
  refine iq_G_go (k := 1) (σ' := (10, [some (.ref 5009)], [.int ((3 : Int32) >>> (q1 &&& 31))], (iq_sh l, I, J, X))) (fun _ => rfl) ?_
  cases h
  exact iq_G_ret (fun _ => rfl)
set_option maxRecDepth 100000 in
theorem zS_J0_isLatin1_aae02_5009_ok (l : Nat)   (I : iq_I) (J : iq_J) (X : iq_X) {q : Int32} (h : zS_J0_isLatin1_aae02_5009 I = some q) : iq_Cc 1 317 [.ref 5009] (iq_sh l, I, J, X) (.inl (some (.int q)), (iq_sh l, I, J, X)) := by
  refine iq_Cc_of (L := [some (.ref 5009)]) rfl rfl ?_
  unfold zS_J0_isLatin1_aae02_5009 at h
  refine iq_G_go (k := 1) (σ' := (3, [some (.ref 5009)], [.int (1 : Int32)], (iq_sh l, I, J, X))) (fun _ => rfl) ?_
  refine iq_G_go (k := 1) (σ' := (6, [some (.ref 5009)], [], (iq_sh l, I, J, X))) (fun _ => rfl) ?_
  refine iq_G_go (k := 2) (σ' := (10, [some (.ref 5009)], [.int (0 : Int32)], (iq_sh l, I, J, X))) (fun _ => rfl) ?_
  refine iq_G_go (k := 1) (σ' := (13, [some (.ref 5009)], [], (iq_sh l, I, J, X))) (fun _ => rfl) ?_
  refine iq_G_go (k := 2) (σ' := (18, [some (.ref 5009)], [.int (1 : Int32)], (iq_sh l, I, J, X))) (fun _ => rfl) ?_
  cases h
  exact iq_G_ret (fun _ => rfl)
set_option maxRecDepth 100000 in
theorem zS_J1_charAt_3b067_6009_ok (l : Nat)  (x1 : Int32) (I : iq_I) (J : iq_J) (X : iq_X) {q : Int32} (h : zS_J1_charAt_3b067_6009 x1 I = some q) : iq_Cc 3 319 [.ref 6009, .int x1] (iq_sh l, I, J, X) (.inl (some (.int q)), (iq_sh l, I, J, X)) := by
  refine iq_Cc_of (L := [some (.ref 6009), some (.int x1)]) rfl rfl ?_
  unfold zS_J1_charAt_3b067_6009 at h
  refine iq_G_go (k := 3) (σ' := (3, [some (.ref 6009), some (.int x1)], [.int (3 : Int32), .int x1], (iq_sh l, I, J, X))) (fun _ => rfl) ?_
  obtain ⟨q1, hq1, h⟩ := iq_bnd h
  refine iq_G_call (σ' := (6, [some (.ref 6009), some (.int x1)], [], (iq_sh l, I, J, X))) (fun _ => rfl) (zS_J0_checkIndex_df160_ok l x1 (3 : Int32) I J X hq1) rfl rfl ?_
  refine iq_G_go (k := 2) (σ' := (8, [some (.ref 6009), some (.int x1)], [.int x1, .ref 6009], (iq_sh l, I, J, X))) (fun _ => rfl) ?_
  obtain ⟨hc_, h⟩ := iq_itn h
  refine iq_G_pos (c := iq_in x1 3) (σ1 := (9, [some (.ref 6009), some (.int x1)], [.int (ir_chr 9 (Int32.toNatClampNeg x1))], (iq_sh l, I, J, X))) (fun _ => rfl) hc_ ?_
  refine iq_G_go (k := 3) (σ' := (14, [some (.ref 6009), some (.int x1)], [.int ((Int32.toUInt32 ((ir_chr 9 (Int32.toNatClampNeg x1)) &&& (255 : Int32)) % 65536).toInt32)], (iq_sh l, I, J, X))) (fun _ => rfl) ?_
  obtain ⟨hc_, h⟩ := iq_itn h
  have h := Option.some.inj h
  subst h
  exact iq_G_rif (c := narrow .char (.int ((Int32.toUInt32 ((ir_chr 9 (Int32.toNatClampNeg x1)) &&& (255 : Int32)) % 65536).toInt32)) = .int ((Int32.toUInt32 ((ir_chr 9 (Int32.toNatClampNeg x1)) &&& (255 : Int32)) % 65536).toInt32)) (fun _ => rfl) hc_
set_option maxRecDepth 100000 in
theorem zS_J0_charAt_5068e_5009_ok (l : Nat)  (x1 : Int32) (I : iq_I) (J : iq_J) (X : iq_X) {q : Int32} (h : zS_J0_charAt_5068e_5009 x1 I = some q) : iq_Cc 4 313 [.ref 5009, .int x1] (iq_sh l, I, J, X) (.inl (some (.int q)), (iq_sh l, I, J, X)) := by
  refine iq_Cc_of (L := [some (.ref 5009), some (.int x1)]) rfl rfl ?_
  unfold zS_J0_charAt_5068e_5009 at h
  refine iq_G_go (k := 1) (σ' := (1, [some (.ref 5009), some (.int x1)], [.ref 5009], (iq_sh l, I, J, X))) (fun _ => rfl) ?_
  obtain ⟨q1, hq1, h⟩ := iq_bnd h
  refine iq_G_call (σ' := (4, [some (.ref 5009), some (.int x1)], [.int q1], (iq_sh l, I, J, X))) (fun _ => rfl) (zS_J0_isLatin1_aae02_5009_ok l  I J X hq1) rfl rfl ?_
  rcases iq_ite h with ⟨hc_, h⟩ | ⟨hc_, h⟩
  · refine iq_G_pos (c := q1 = 0) (σ1 := (16, [some (.ref 5009), some (.int x1)], [], (iq_sh l, I, J, X))) (fun _ => rfl) hc_ ?_
    cases h
  · refine iq_G_neg (c := q1 = 0) (σ1 := (7, [some (.ref 5009), some (.int x1)], [], (iq_sh l, I, J, X))) (fun _ => rfl) hc_ ?_
    refine iq_G_go (k := 3) (σ' := (12, [some (.ref 5009), some (.int x1)], [.int x1, .ref 6009], (iq_sh l, I, J, X))) (fun _ => rfl) ?_
    obtain ⟨q2, hq2, h⟩ := iq_bnd h
    refine iq_G_call (σ' := (15, [some (.ref 5009), some (.int x1)], [.int q2], (iq_sh l, I, J, X))) (fun _ => rfl) (zS_J1_charAt_3b067_6009_ok l x1 I J X hq2) rfl rfl ?_
    obtain ⟨hc_, h⟩ := iq_itn h
    have h := Option.some.inj h
    subst h
    exact iq_G_rif (c := narrow .char (.int q2) = .int q2) (fun _ => rfl) hc_
set_option maxRecDepth 100000 in
theorem zT_isWord_62_5009_l28_bok (l : Nat)   (I : iq_I) (J : iq_J) (X : iq_X) (x2 : Int32)  {q : (Int32) ⊕ ((Unit) ⊕ (Int32))} (h : zT_isWord_62_5009_l28_b I x2 = some q) (r : iq_R × iq_M) (hc : ∀ v, q = .inl v → iq_Gg 4 142 (28, [some (.ref 62), some (.ref 5009), some (.int v)], [], (iq_sh l, I, J, X)) r) (hx : ∀ w, q = .inr w → (∀ a, w = .inl a → iq_Gg 4 142 (63, [none, none, none], [], (iq_sh l, I, J, X)) r) ∧ (∀ b, w = .inr b → r = (.inl (some (.int b)), (iq_sh l, I, J, X)))) : iq_Gg 4 142 (28, [some (.ref 62), some (.ref 5009), some (.int x2)], [], (iq_sh l, I, J, X)) r := by
  unfold zT_isWord_62_5009_l28_b at h
  refine iq_G_go (k := 2) (σ' := (30, [some (.ref 62), some (.ref 5009), some (.int x2)], [.ref 5009, .int x2], (iq_sh l, I, J, X))) (fun _ => rfl) ?_
  obtain ⟨q2, hq2, h⟩ := iq_bnd h
  refine iq_G_call (σ' := (33, [some (.ref 62), some (.ref 5009), some (.int x2)], [.int q2, .int x2], (iq_sh l, I, J, X))) (fun _ => rfl) (zS_J0_length_8abf5_5009_ok l  I J X hq2) rfl rfl ?_
  rcases iq_ite h with ⟨hc_, h⟩ | ⟨hc_, h⟩
  · refine iq_G_pos (c := q2 ≤ x2) (σ1 := (63, [some (.ref 62), some (.ref 5009), some (.int x2)], [], (iq_sh l, I, J, X))) (fun _ => rfl) hc_ ?_
    cases h
    exact iq_G_fg (L := [none, none, none]) trivial ((hx (.inl ()) rfl).1 () rfl)
  · refine iq_G_neg (c := q2 ≤ x2) (σ1 := (36, [some (.ref 62), some (.ref 5009), some (.int x2)], [], (iq_sh l, I, J, X))) (fun _ => rfl) hc_ ?_
    refine iq_G_go (k := 6) (σ' := (46, [some (.ref 62), some (.ref 5009), some (.int x2)], [.int ((I 62 1) + x2), .ref 2], (iq_sh l, I, J, X))) (fun _ => rfl) ?_
    obtain ⟨hc_, h⟩ := iq_itn h
    refine iq_G_pos (c := iq_in ((I 62 1) + x2) 700) (σ1 := (47, [some (.ref 62), some (.ref 5009), some (.int x2)], [.int (I 2 (Int32.toNatClampNeg ((I 62 1) + x2)))], (iq_sh l, I, J, X))) (fun _ => rfl) hc_ ?_
    refine iq_G_go (k := 2) (σ' := (49, [some (.ref 62), some (.ref 5009), some (.int x2)], [.int x2, .ref 5009, .int (I 2 (Int32.toNatClampNeg ((I 62 1) + x2)))], (iq_sh l, I, J, X))) (fun _ => rfl) ?_
    obtain ⟨q3, hq3, h⟩ := iq_bnd h
    refine iq_G_call (σ' := (52, [some (.ref 62), some (.ref 5009), some (.int x2)], [.int q3, .int (I 2 (Int32.toNatClampNeg ((I 62 1) + x2)))], (iq_sh l, I, J, X))) (fun _ => rfl) (zS_J0_charAt_5068e_5009_ok l x2 I J X hq3) rfl rfl ?_
    rcases iq_ite h with ⟨hc_, h⟩ | ⟨hc_, h⟩
    · refine iq_G_pos (c := (I 2 (Int32.toNatClampNeg ((I 62 1) + x2))) = q3) (σ1 := (57, [some (.ref 62), some (.ref 5009), some (.int x2)], [], (iq_sh l, I, J, X))) (fun _ => rfl) hc_ ?_
      refine iq_G_go (k := 2) (σ' := (28, [some (.ref 62), some (.ref 5009), some (.int (x2 + (1 : Int32)))], [], (iq_sh l, I, J, X))) (fun _ => rfl) ?_
      cases h
      exact iq_G_fg (L := [some (.ref 62), some (.ref 5009), some (.int (x2 + (1 : Int32)))]) (And.intro rfl (And.intro rfl (And.intro rfl trivial))) (hc (x2 + (1 : Int32)) rfl)
    · refine iq_G_neg (c := (I 2 (Int32.toNatClampNeg ((I 62 1) + x2))) = q3) (σ1 := (55, [some (.ref 62), some (.ref 5009), some (.int x2)], [], (iq_sh l, I, J, X))) (fun _ => rfl) hc_ ?_
      refine iq_G_go (k := 1) (σ' := (56, [some (.ref 62), some (.ref 5009), some (.int x2)], [.int (0 : Int32)], (iq_sh l, I, J, X))) (fun _ => rfl) ?_
      cases h
      obtain rfl := (hx _ rfl).2 _ rfl
      exact iq_G_ret (fun _ => rfl)
set_option maxRecDepth 100000 in
theorem zT_isWord_62_5009_l28_ok (l : Nat)   (I : iq_I) (J : iq_J) (X : iq_X) {n : Nat} {v : Int32} {w : (Unit) ⊕ (Int32)} (h : zT_isWord_62_5009_l28 I n v = some w) (r : iq_R × iq_M) (hq : (∀ a, w = .inl a → iq_Gg 4 142 (63, [none, none, none], [], (iq_sh l, I, J, X)) r) ∧ (∀ b, w = .inr b → r = (.inl (some (.int b)), (iq_sh l, I, J, X)))) : iq_Gg 4 142 (28, [some (.ref 62), some (.ref 5009), some (.int v)], [], (iq_sh l, I, J, X)) r :=
  iq_lp_ok (σ := fun v => (28, [some (.ref 62), some (.ref 5009), some (.int v)], [], (iq_sh l, I, J, X))) (Q := fun w r => (∀ a, w = .inl a → iq_Gg 4 142 (63, [none, none, none], [], (iq_sh l, I, J, X)) r) ∧ (∀ b, w = .inr b → r = (.inl (some (.int b)), (iq_sh l, I, J, X)))) (fun v q hv r h1 h2 => zT_isWord_62_5009_l28_bok l I J X v hv r h1 h2) h r hq
set_option maxRecDepth 100000 in
theorem zT_isWord_62_5009_ok (l : Nat)   (I : iq_I) (J : iq_J) (X : iq_X) {q : Int32} (h : zT_isWord_62_5009 I = some q) : iq_Cc 5 142 [.ref 62, .ref 5009] (iq_sh l, I, J, X) (.inl (some (.int q)), (iq_sh l, I, J, X)) := by
  refine iq_Cc_of (L := [some (.ref 62), some (.ref 5009), none]) rfl rfl ?_
  unfold zT_isWord_62_5009 at h
  refine iq_G_go (k := 3) (σ' := (5, [some (.ref 62), some (.ref 5009), none], [.int (1 : Int32), .int (I 62 0)], (iq_sh l, I, J, X))) (fun _ => rfl) ?_
  rcases iq_ite h with ⟨hc_, h⟩ | ⟨hc_, h⟩
  · refine iq_G_pos (c := ¬ (I 62 0) = (1 : Int32)) (σ1 := (24, [some (.ref 62), some (.ref 5009), none], [], (iq_sh l, I, J, X))) (fun _ => rfl) hc_ ?_
    refine iq_G_go (k := 1) (σ' := (25, [some (.ref 62), some (.ref 5009), none], [.int (0 : Int32)], (iq_sh l, I, J, X))) (fun _ => rfl) ?_
    cases h
    exact iq_G_ret (fun _ => rfl)
  · refine iq_G_neg (c := ¬ (I 62 0) = (1 : Int32)) (σ1 := (8, [some (.ref 62), some (.ref 5009), none], [], (iq_sh l, I, J, X))) (fun _ => rfl) hc_ ?_
    refine iq_G_go (k := 6) (σ' := (18, [some (.ref 62), some (.ref 5009), none], [.ref 5009, .int ((I 62 4) - (I 62 1))], (iq_sh l, I, J, X))) (fun _ => rfl) ?_
    obtain ⟨q1, hq1, h⟩ := iq_bnd h
    refine iq_G_call (σ' := (21, [some (.ref 62), some (.ref 5009), none], [.int q1, .int ((I 62 4) - (I 62 1))], (iq_sh l, I, J, X))) (fun _ => rfl) (zS_J0_length_8abf5_5009_ok l  I J X hq1) rfl rfl ?_
    rcases iq_ite h with ⟨hc_, h⟩ | ⟨hc_, h⟩
    · have st_ : ∀ (z_0 : Int32) (r_ : iq_R × iq_M), z_0 = q1 → iq_Gg 4 142 (26, [some (.ref 62), some (.ref 5009), none], [], (iq_sh l, I, J, X)) r_ → iq_Gg 4 142 (21, [some (.ref 62), some (.ref 5009), none], [.int q1, .int z_0], (iq_sh l, I, J, X)) r_ := fun z_0 r_ hc_ hg_ => iq_G_pos (c := z_0 = q1) (σ1 := (26, [some (.ref 62), some (.ref 5009), none], [], (iq_sh l, I, J, X))) (fun _ => rfl) hc_ hg_
      refine st_ ((I 62 4) - (I 62 1)) _ hc_ ?_
      clear st_
      refine iq_G_go (k := 2) (σ' := (28, [some (.ref 62), some (.ref 5009), some (.int (0 : Int32))], [], (iq_sh l, I, J, X))) (fun _ => rfl) ?_
      obtain ⟨w4, hw4, h⟩ := iq_bnd h
      refine iq_G_fg (L := [some (.ref 62), some (.ref 5009), some (.int (0 : Int32))]) (And.intro rfl (And.intro rfl (And.intro rfl trivial))) ?_
      refine zT_isWord_62_5009_l28_ok l I J X hw4 _ ⟨fun a5 ha => ?_, fun b6 hb => ?_⟩
      · subst ha
        replace h := ir_smL h
        show iq_Gg 4 142 (63, [none, none, none], [], (iq_sh l, I, J, X)) _
        refine iq_G_go (k := 1) (σ' := (64, [none, none, none], [.int (1 : Int32)], (iq_sh l, I, J, X))) (fun _ => rfl) ?_
        cases h
        exact iq_G_ret (fun _ => rfl)
      · subst hb
        replace h := ir_smR h
        cases h
        rfl
    · have st_ : ∀ (z_0 : Int32) (r_ : iq_R × iq_M), ¬ (z_0 = q1) → iq_Gg 4 142 (24, [some (.ref 62), some (.ref 5009), none], [], (iq_sh l, I, J, X)) r_ → iq_Gg 4 142 (21, [some (.ref 62), some (.ref 5009), none], [.int q1, .int z_0], (iq_sh l, I, J, X)) r_ := fun z_0 r_ hc_ hg_ => iq_G_neg (c := z_0 = q1) (σ1 := (24, [some (.ref 62), some (.ref 5009), none], [], (iq_sh l, I, J, X))) (fun _ => rfl) hc_ hg_
      refine st_ ((I 62 4) - (I 62 1)) _ hc_ ?_
      clear st_
      refine iq_G_go (k := 1) (σ' := (25, [some (.ref 62), some (.ref 5009), none], [.int (0 : Int32)], (iq_sh l, I, J, X))) (fun _ => rfl) ?_
      cases h
      exact iq_G_ret (fun _ => rfl)
set_option maxRecDepth 100000 in
theorem zS_J0_coder_7d493_5010_ok (l : Nat)   (I : iq_I) (J : iq_J) (X : iq_X) {q : Int32} (h : zS_J0_coder_7d493_5010 I = some q) : iq_Cc 1 316 [.ref 5010] (iq_sh l, I, J, X) (.inl (some (.int q)), (iq_sh l, I, J, X)) := by
  refine iq_Cc_of (L := [some (.ref 5010)]) rfl rfl ?_
  unfold zS_J0_coder_7d493_5010 at h
  refine iq_G_go (k := 1) (σ' := (3, [some (.ref 5010)], [.int (1 : Int32)], (iq_sh l, I, J, X))) (fun _ => rfl) ?_
  refine iq_G_go (k := 1) (σ' := (6, [some (.ref 5010)], [], (iq_sh l, I, J, X))) (fun _ => rfl) ?_
  refine iq_G_go (k := 3) (σ' := (14, [some (.ref 5010)], [.int (0 : Int32)], (iq_sh l, I, J, X))) (fun _ => rfl) ?_
  cases h
  exact iq_G_ret (fun _ => rfl)
set_option maxRecDepth 100000 in
theorem zS_J0_length_8abf5_5010_ok (l : Nat)   (I : iq_I) (J : iq_J) (X : iq_X) {q : Int32} (h : zS_J0_length_8abf5_5010 I = some q) : iq_Cc 2 312 [.ref 5010] (iq_sh l, I, J, X) (.inl (some (.int q)), (iq_sh l, I, J, X)) := by
  refine iq_Cc_of (L := [some (.ref 5010)]) rfl rfl ?_
  unfold zS_J0_length_8abf5_5010 at h
  refine iq_G_go (k := 4) (σ' := (6, [some (.ref 5010)], [.ref 5010, .int (4 : Int32)], (iq_sh l, I, J, X))) (fun _ => rfl) ?_
  obtain ⟨q1, hq1, h⟩ := iq_bnd h
  refine iq_G_call (σ' := (9, [some (.ref 5010)], [.int q1, .int (4 : Int32)], (iq_sh l, I, J, X))) (fun _ => rfl) (zS_J0_coder_7d493_5010_ok l  I J X hq1) rfl rfl ?_
  refine iq_G_go (k := 1) (σ' := (10, [some (.ref 5010)], [.int ((4 : Int32) >>> (q1 &&& 31))], (iq_sh l, I, J, X))) (fun _ => rfl) ?_
  cases h
  exact iq_G_ret (fun _ => rfl)
set_option maxRecDepth 100000 in
theorem zS_J0_isLatin1_aae02_5010_ok (l : Nat)   (I : iq_I) (J : iq_J) (X : iq_X) {q : Int32} (h : zS_J0_isLatin1_aae02_5010 I = some q) : iq_Cc 1 317 [.ref 5010] (iq_sh l, I, J, X) (.inl (some (.int q)), (iq_sh l, I, J, X)) := by
  refine iq_Cc_of (L := [some (.ref 5010)]) rfl rfl ?_
  unfold zS_J0_isLatin1_aae02_5010 at h
  refine iq_G_go (k := 1) (σ' := (3, [some (.ref 5010)], [.int (1 : Int32)], (iq_sh l, I, J, X))) (fun _ => rfl) ?_
  refine iq_G_go (k := 1) (σ' := (6, [some (.ref 5010)], [], (iq_sh l, I, J, X))) (fun _ => rfl) ?_
  refine iq_G_go (k := 2) (σ' := (10, [some (.ref 5010)], [.int (0 : Int32)], (iq_sh l, I, J, X))) (fun _ => rfl) ?_
  refine iq_G_go (k := 1) (σ' := (13, [some (.ref 5010)], [], (iq_sh l, I, J, X))) (fun _ => rfl) ?_
  refine iq_G_go (k := 2) (σ' := (18, [some (.ref 5010)], [.int (1 : Int32)], (iq_sh l, I, J, X))) (fun _ => rfl) ?_
  cases h
  exact iq_G_ret (fun _ => rfl)
set_option maxRecDepth 100000 in
theorem zS_J1_charAt_3b067_6010_ok (l : Nat)  (x1 : Int32) (I : iq_I) (J : iq_J) (X : iq_X) {q : Int32} (h : zS_J1_charAt_3b067_6010 x1 I = some q) : iq_Cc 3 319 [.ref 6010, .int x1] (iq_sh l, I, J, X) (.inl (some (.int q)), (iq_sh l, I, J, X)) := by
  refine iq_Cc_of (L := [some (.ref 6010), some (.int x1)]) rfl rfl ?_
  unfold zS_J1_charAt_3b067_6010 at h
  refine iq_G_go (k := 3) (σ' := (3, [some (.ref 6010), some (.int x1)], [.int (4 : Int32), .int x1], (iq_sh l, I, J, X))) (fun _ => rfl) ?_
  obtain ⟨q1, hq1, h⟩ := iq_bnd h
  refine iq_G_call (σ' := (6, [some (.ref 6010), some (.int x1)], [], (iq_sh l, I, J, X))) (fun _ => rfl) (zS_J0_checkIndex_df160_ok l x1 (4 : Int32) I J X hq1) rfl rfl ?_
  refine iq_G_go (k := 2) (σ' := (8, [some (.ref 6010), some (.int x1)], [.int x1, .ref 6010], (iq_sh l, I, J, X))) (fun _ => rfl) ?_
  obtain ⟨hc_, h⟩ := iq_itn h
  refine iq_G_pos (c := iq_in x1 4) (σ1 := (9, [some (.ref 6010), some (.int x1)], [.int (ir_chr 10 (Int32.toNatClampNeg x1))], (iq_sh l, I, J, X))) (fun _ => rfl) hc_ ?_
  refine iq_G_go (k := 3) (σ' := (14, [some (.ref 6010), some (.int x1)], [.int ((Int32.toUInt32 ((ir_chr 10 (Int32.toNatClampNeg x1)) &&& (255 : Int32)) % 65536).toInt32)], (iq_sh l, I, J, X))) (fun _ => rfl) ?_
  obtain ⟨hc_, h⟩ := iq_itn h
  have h := Option.some.inj h
  subst h
  exact iq_G_rif (c := narrow .char (.int ((Int32.toUInt32 ((ir_chr 10 (Int32.toNatClampNeg x1)) &&& (255 : Int32)) % 65536).toInt32)) = .int ((Int32.toUInt32 ((ir_chr 10 (Int32.toNatClampNeg x1)) &&& (255 : Int32)) % 65536).toInt32)) (fun _ => rfl) hc_
set_option maxRecDepth 100000 in
theorem zS_J0_charAt_5068e_5010_ok (l : Nat)  (x1 : Int32) (I : iq_I) (J : iq_J) (X : iq_X) {q : Int32} (h : zS_J0_charAt_5068e_5010 x1 I = some q) : iq_Cc 4 313 [.ref 5010, .int x1] (iq_sh l, I, J, X) (.inl (some (.int q)), (iq_sh l, I, J, X)) := by
  refine iq_Cc_of (L := [some (.ref 5010), some (.int x1)]) rfl rfl ?_
  unfold zS_J0_charAt_5068e_5010 at h
  refine iq_G_go (k := 1) (σ' := (1, [some (.ref 5010), some (.int x1)], [.ref 5010], (iq_sh l, I, J, X))) (fun _ => rfl) ?_
  obtain ⟨q1, hq1, h⟩ := iq_bnd h
  refine iq_G_call (σ' := (4, [some (.ref 5010), some (.int x1)], [.int q1], (iq_sh l, I, J, X))) (fun _ => rfl) (zS_J0_isLatin1_aae02_5010_ok l  I J X hq1) rfl rfl ?_
  rcases iq_ite h with ⟨hc_, h⟩ | ⟨hc_, h⟩
  · refine iq_G_pos (c := q1 = 0) (σ1 := (16, [some (.ref 5010), some (.int x1)], [], (iq_sh l, I, J, X))) (fun _ => rfl) hc_ ?_
    cases h
  · refine iq_G_neg (c := q1 = 0) (σ1 := (7, [some (.ref 5010), some (.int x1)], [], (iq_sh l, I, J, X))) (fun _ => rfl) hc_ ?_
    refine iq_G_go (k := 3) (σ' := (12, [some (.ref 5010), some (.int x1)], [.int x1, .ref 6010], (iq_sh l, I, J, X))) (fun _ => rfl) ?_
    obtain ⟨q2, hq2, h⟩ := iq_bnd h
    refine iq_G_call (σ' := (15, [some (.ref 5010), some (.int x1)], [.int q2], (iq_sh l, I, J, X))) (fun _ => rfl) (zS_J1_charAt_3b067_6010_ok l x1 I J X hq2) rfl rfl ?_
    obtain ⟨hc_, h⟩ := iq_itn h
    have h := Option.some.inj h
    subst h
    exact iq_G_rif (c := narrow .char (.int q2) = .int q2) (fun _ => rfl) hc_
set_option maxRecDepth 100000 in
theorem zT_isWord_62_5010_l28_bok (l : Nat)   (I : iq_I) (J : iq_J) (X : iq_X) (x2 : Int32)  {q : (Int32) ⊕ ((Unit) ⊕ (Int32))} (h : zT_isWord_62_5010_l28_b I x2 = some q) (r : iq_R × iq_M) (hc : ∀ v, q = .inl v → iq_Gg 4 142 (28, [some (.ref 62), some (.ref 5010), some (.int v)], [], (iq_sh l, I, J, X)) r) (hx : ∀ w, q = .inr w → (∀ a, w = .inl a → iq_Gg 4 142 (63, [none, none, none], [], (iq_sh l, I, J, X)) r) ∧ (∀ b, w = .inr b → r = (.inl (some (.int b)), (iq_sh l, I, J, X)))) : iq_Gg 4 142 (28, [some (.ref 62), some (.ref 5010), some (.int x2)], [], (iq_sh l, I, J, X)) r := by
  unfold zT_isWord_62_5010_l28_b at h
  refine iq_G_go (k := 2) (σ' := (30, [some (.ref 62), some (.ref 5010), some (.int x2)], [.ref 5010, .int x2], (iq_sh l, I, J, X))) (fun _ => rfl) ?_
  obtain ⟨q2, hq2, h⟩ := iq_bnd h
  refine iq_G_call (σ' := (33, [some (.ref 62), some (.ref 5010), some (.int x2)], [.int q2, .int x2], (iq_sh l, I, J, X))) (fun _ => rfl) (zS_J0_length_8abf5_5010_ok l  I J X hq2) rfl rfl ?_
  rcases iq_ite h with ⟨hc_, h⟩ | ⟨hc_, h⟩
  · refine iq_G_pos (c := q2 ≤ x2) (σ1 := (63, [some (.ref 62), some (.ref 5010), some (.int x2)], [], (iq_sh l, I, J, X))) (fun _ => rfl) hc_ ?_
    cases h
    exact iq_G_fg (L := [none, none, none]) trivial ((hx (.inl ()) rfl).1 () rfl)
  · refine iq_G_neg (c := q2 ≤ x2) (σ1 := (36, [some (.ref 62), some (.ref 5010), some (.int x2)], [], (iq_sh l, I, J, X))) (fun _ => rfl) hc_ ?_
    refine iq_G_go (k := 6) (σ' := (46, [some (.ref 62), some (.ref 5010), some (.int x2)], [.int ((I 62 1) + x2), .ref 2], (iq_sh l, I, J, X))) (fun _ => rfl) ?_
    obtain ⟨hc_, h⟩ := iq_itn h
    refine iq_G_pos (c := iq_in ((I 62 1) + x2) 700) (σ1 := (47, [some (.ref 62), some (.ref 5010), some (.int x2)], [.int (I 2 (Int32.toNatClampNeg ((I 62 1) + x2)))], (iq_sh l, I, J, X))) (fun _ => rfl) hc_ ?_
    refine iq_G_go (k := 2) (σ' := (49, [some (.ref 62), some (.ref 5010), some (.int x2)], [.int x2, .ref 5010, .int (I 2 (Int32.toNatClampNeg ((I 62 1) + x2)))], (iq_sh l, I, J, X))) (fun _ => rfl) ?_
    obtain ⟨q3, hq3, h⟩ := iq_bnd h
    refine iq_G_call (σ' := (52, [some (.ref 62), some (.ref 5010), some (.int x2)], [.int q3, .int (I 2 (Int32.toNatClampNeg ((I 62 1) + x2)))], (iq_sh l, I, J, X))) (fun _ => rfl) (zS_J0_charAt_5068e_5010_ok l x2 I J X hq3) rfl rfl ?_
    rcases iq_ite h with ⟨hc_, h⟩ | ⟨hc_, h⟩
    · refine iq_G_pos (c := (I 2 (Int32.toNatClampNeg ((I 62 1) + x2))) = q3) (σ1 := (57, [some (.ref 62), some (.ref 5010), some (.int x2)], [], (iq_sh l, I, J, X))) (fun _ => rfl) hc_ ?_
      refine iq_G_go (k := 2) (σ' := (28, [some (.ref 62), some (.ref 5010), some (.int (x2 + (1 : Int32)))], [], (iq_sh l, I, J, X))) (fun _ => rfl) ?_
      cases h
      exact iq_G_fg (L := [some (.ref 62), some (.ref 5010), some (.int (x2 + (1 : Int32)))]) (And.intro rfl (And.intro rfl (And.intro rfl trivial))) (hc (x2 + (1 : Int32)) rfl)
    · refine iq_G_neg (c := (I 2 (Int32.toNatClampNeg ((I 62 1) + x2))) = q3) (σ1 := (55, [some (.ref 62), some (.ref 5010), some (.int x2)], [], (iq_sh l, I, J, X))) (fun _ => rfl) hc_ ?_
      refine iq_G_go (k := 1) (σ' := (56, [some (.ref 62), some (.ref 5010), some (.int x2)], [.int (0 : Int32)], (iq_sh l, I, J, X))) (fun _ => rfl) ?_
      cases h
      obtain rfl := (hx _ rfl).2 _ rfl
      exact iq_G_ret (fun _ => rfl)
set_option maxRecDepth 100000 in
theorem zT_isWord_62_5010_l28_ok (l : Nat)   (I : iq_I) (J : iq_J) (X : iq_X) {n : Nat} {v : Int32} {w : (Unit) ⊕ (Int32)} (h : zT_isWord_62_5010_l28 I n v = some w) (r : iq_R × iq_M) (hq : (∀ a, w = .inl a → iq_Gg 4 142 (63, [none, none, none], [], (iq_sh l, I, J, X)) r) ∧ (∀ b, w = .inr b → r = (.inl (some (.int b)), (iq_sh l, I, J, X)))) : iq_Gg 4 142 (28, [some (.ref 62), some (.ref 5010), some (.int v)], [], (iq_sh l, I, J, X)) r :=
  iq_lp_ok (σ := fun v => (28, [some (.ref 62), some (.ref 5010), some (.int v)], [], (iq_sh l, I, J, X))) (Q := fun w r => (∀ a, w = .inl a → iq_Gg 4 142 (63, [none, none, none], [], (iq_sh l, I, J, X)) r) ∧ (∀ b, w = .inr b → r = (.inl (some (.int b)), (iq_sh l, I, J, X)))) (fun v q hv r h1 h2 => zT_isWord_62_5010_l28_bok l I J X v hv r h1 h2) h r hq
set_option maxRecDepth 100000 in
theorem zT_isWord_62_5010_ok (l : Nat)   (I : iq_I) (J : iq_J) (X : iq_X) {q : Int32} (h : zT_isWord_62_5010 I = some q) : iq_Cc 5 142 [.ref 62, .ref 5010] (iq_sh l, I, J, X) (.inl (some (.int q)), (iq_sh l, I, J, X)) := by
  refine iq_Cc_of (L := [some (.ref 62), some (.ref 5010), none]) rfl rfl ?_
  unfold zT_isWord_62_5010 at h
  refine iq_G_go (k := 3) (σ' := (5, [some (.ref 62), some (.ref 5010), none], [.int (1 : Int32), .int (I 62 0)], (iq_sh l, I, J, X))) (fun _ => rfl) ?_
  rcases iq_ite h with ⟨hc_, h⟩ | ⟨hc_, h⟩
  · refine iq_G_pos (c := ¬ (I 62 0) = (1 : Int32)) (σ1 := (24, [some (.ref 62), some (.ref 5010), none], [], (iq_sh l, I, J, X))) (fun _ => rfl) hc_ ?_
    refine iq_G_go (k := 1) (σ' := (25, [some (.ref 62), some (.ref 5010), none], [.int (0 : Int32)], (iq_sh l, I, J, X))) (fun _ => rfl) ?_
    cases h
    exact iq_G_ret (fun _ => rfl)
  · refine iq_G_neg (c := ¬ (I 62 0) = (1 : Int32)) (σ1 := (8, [some (.ref 62), some (.ref 5010), none], [], (iq_sh l, I, J, X))) (fun _ => rfl) hc_ ?_
    refine iq_G_go (k := 6) (σ' := (18, [some (.ref 62), some (.ref 5010), none], [.ref 5010, .int ((I 62 4) - (I 62 1))], (iq_sh l, I, J, X))) (fun _ => rfl) ?_
    obtain ⟨q1, hq1, h⟩ := iq_bnd h
    refine iq_G_call (σ' := (21, [some (.ref 62), some (.ref 5010), none], [.int q1, .int ((I 62 4) - (I 62 1))], (iq_sh l, I, J, X))) (fun _ => rfl) (zS_J0_length_8abf5_5010_ok l  I J X hq1) rfl rfl ?_
    rcases iq_ite h with ⟨hc_, h⟩ | ⟨hc_, h⟩
    · have st_ : ∀ (z_0 : Int32) (r_ : iq_R × iq_M), z_0 = q1 → iq_Gg 4 142 (26, [some (.ref 62), some (.ref 5010), none], [], (iq_sh l, I, J, X)) r_ → iq_Gg 4 142 (21, [some (.ref 62), some (.ref 5010), none], [.int q1, .int z_0], (iq_sh l, I, J, X)) r_ := fun z_0 r_ hc_ hg_ => iq_G_pos (c := z_0 = q1) (σ1 := (26, [some (.ref 62), some (.ref 5010), none], [], (iq_sh l, I, J, X))) (fun _ => rfl) hc_ hg_
      refine st_ ((I 62 4) - (I 62 1)) _ hc_ ?_
      clear st_
      refine iq_G_go (k := 2) (σ' := (28, [some (.ref 62), some (.ref 5010), some (.int (0 : Int32))], [], (iq_sh l, I, J, X))) (fun _ => rfl) ?_
      obtain ⟨w4, hw4, h⟩ := iq_bnd h
      refine iq_G_fg (L := [some (.ref 62), some (.ref 5010), some (.int (0 : Int32))]) (And.intro rfl (And.intro rfl (And.intro rfl trivial))) ?_
      refine zT_isWord_62_5010_l28_ok l I J X hw4 _ ⟨fun a5 ha => ?_, fun b6 hb => ?_⟩
      · subst ha
        replace h := ir_smL h
        show iq_Gg 4 142 (63, [none, none, none], [], (iq_sh l, I, J, X)) _
        refine iq_G_go (k := 1) (σ' := (64, [none, none, none], [.int (1 : Int32)], (iq_sh l, I, J, X))) (fun _ => rfl) ?_
        cases h
        exact iq_G_ret (fun _ => rfl)
      · subst hb
        replace h := ir_smR h
        cases h
        rfl
    · have st_ : ∀ (z_0 : Int32) (r_ : iq_R × iq_M), ¬ (z_0 = q1) → iq_Gg 4 142 (24, [some (.ref 62), some (.ref 5010), none], [], (iq_sh l, I, J, X)) r_ → iq_Gg 4 142 (21, [some (.ref 62), some (.ref 5010), none], [.int q1, .int z_0], (iq_sh l, I, J, X)) r_ := fun z_0 r_ hc_ hg_ => iq_G_neg (c := z_0 = q1) (σ1 := (24, [some (.ref 62), some (.ref 5010), none], [], (iq_sh l, I, J, X))) (fun _ => rfl) hc_ hg_
      refine st_ ((I 62 4) - (I 62 1)) _ hc_ ?_
      clear st_
      refine iq_G_go (k := 1) (σ' := (25, [some (.ref 62), some (.ref 5010), none], [.int (0 : Int32)], (iq_sh l, I, J, X))) (fun _ => rfl) ?_
      cases h
      exact iq_G_ret (fun _ => rfl)
set_option maxRecDepth 100000 in
theorem zS_J0_coder_7d493_5011_ok (l : Nat)   (I : iq_I) (J : iq_J) (X : iq_X) {q : Int32} (h : zS_J0_coder_7d493_5011 I = some q) : iq_Cc 1 316 [.ref 5011] (iq_sh l, I, J, X) (.inl (some (.int q)), (iq_sh l, I, J, X)) := by
  refine iq_Cc_of (L := [some (.ref 5011)]) rfl rfl ?_
  unfold zS_J0_coder_7d493_5011 at h
  refine iq_G_go (k := 1) (σ' := (3, [some (.ref 5011)], [.int (1 : Int32)], (iq_sh l, I, J, X))) (fun _ => rfl) ?_
  refine iq_G_go (k := 1) (σ' := (6, [some (.ref 5011)], [], (iq_sh l, I, J, X))) (fun _ => rfl) ?_
  refine iq_G_go (k := 3) (σ' := (14, [some (.ref 5011)], [.int (0 : Int32)], (iq_sh l, I, J, X))) (fun _ => rfl) ?_
  cases h
  exact iq_G_ret (fun _ => rfl)
set_option maxRecDepth 100000 in
theorem zS_J0_length_8abf5_5011_ok (l : Nat)   (I : iq_I) (J : iq_J) (X : iq_X) {q : Int32} (h : zS_J0_length_8abf5_5011 I = some q) : iq_Cc 2 312 [.ref 5011] (iq_sh l, I, J, X) (.inl (some (.int q)), (iq_sh l, I, J, X)) := by
  refine iq_Cc_of (L := [some (.ref 5011)]) rfl rfl ?_
  unfold zS_J0_length_8abf5_5011 at h
  refine iq_G_go (k := 4) (σ' := (6, [some (.ref 5011)], [.ref 5011, .int (7 : Int32)], (iq_sh l, I, J, X))) (fun _ => rfl) ?_
  obtain ⟨q1, hq1, h⟩ := iq_bnd h
  refine iq_G_call (σ' := (9, [some (.ref 5011)], [.int q1, .int (7 : Int32)], (iq_sh l, I, J, X))) (fun _ => rfl) (zS_J0_coder_7d493_5011_ok l  I J X hq1) rfl rfl ?_
  refine iq_G_go (k := 1) (σ' := (10, [some (.ref 5011)], [.int ((7 : Int32) >>> (q1 &&& 31))], (iq_sh l, I, J, X))) (fun _ => rfl) ?_
  cases h
  exact iq_G_ret (fun _ => rfl)
set_option maxRecDepth 100000 in
theorem zS_J0_isLatin1_aae02_5011_ok (l : Nat)   (I : iq_I) (J : iq_J) (X : iq_X) {q : Int32} (h : zS_J0_isLatin1_aae02_5011 I = some q) : iq_Cc 1 317 [.ref 5011] (iq_sh l, I, J, X) (.inl (some (.int q)), (iq_sh l, I, J, X)) := by
  refine iq_Cc_of (L := [some (.ref 5011)]) rfl rfl ?_
  unfold zS_J0_isLatin1_aae02_5011 at h
  refine iq_G_go (k := 1) (σ' := (3, [some (.ref 5011)], [.int (1 : Int32)], (iq_sh l, I, J, X))) (fun _ => rfl) ?_
  refine iq_G_go (k := 1) (σ' := (6, [some (.ref 5011)], [], (iq_sh l, I, J, X))) (fun _ => rfl) ?_
  refine iq_G_go (k := 2) (σ' := (10, [some (.ref 5011)], [.int (0 : Int32)], (iq_sh l, I, J, X))) (fun _ => rfl) ?_
  refine iq_G_go (k := 1) (σ' := (13, [some (.ref 5011)], [], (iq_sh l, I, J, X))) (fun _ => rfl) ?_
  refine iq_G_go (k := 2) (σ' := (18, [some (.ref 5011)], [.int (1 : Int32)], (iq_sh l, I, J, X))) (fun _ => rfl) ?_
  cases h
  exact iq_G_ret (fun _ => rfl)
set_option maxRecDepth 100000 in
theorem zS_J1_charAt_3b067_6011_ok (l : Nat)  (x1 : Int32) (I : iq_I) (J : iq_J) (X : iq_X) {q : Int32} (h : zS_J1_charAt_3b067_6011 x1 I = some q) : iq_Cc 3 319 [.ref 6011, .int x1] (iq_sh l, I, J, X) (.inl (some (.int q)), (iq_sh l, I, J, X)) := by
  refine iq_Cc_of (L := [some (.ref 6011), some (.int x1)]) rfl rfl ?_
  unfold zS_J1_charAt_3b067_6011 at h
  refine iq_G_go (k := 3) (σ' := (3, [some (.ref 6011), some (.int x1)], [.int (7 : Int32), .int x1], (iq_sh l, I, J, X))) (fun _ => rfl) ?_
  obtain ⟨q1, hq1, h⟩ := iq_bnd h
  refine iq_G_call (σ' := (6, [some (.ref 6011), some (.int x1)], [], (iq_sh l, I, J, X))) (fun _ => rfl) (zS_J0_checkIndex_df160_ok l x1 (7 : Int32) I J X hq1) rfl rfl ?_
  refine iq_G_go (k := 2) (σ' := (8, [some (.ref 6011), some (.int x1)], [.int x1, .ref 6011], (iq_sh l, I, J, X))) (fun _ => rfl) ?_
  obtain ⟨hc_, h⟩ := iq_itn h
  refine iq_G_pos (c := iq_in x1 7) (σ1 := (9, [some (.ref 6011), some (.int x1)], [.int (ir_chr 11 (Int32.toNatClampNeg x1))], (iq_sh l, I, J, X))) (fun _ => rfl) hc_ ?_
  refine iq_G_go (k := 3) (σ' := (14, [some (.ref 6011), some (.int x1)], [.int ((Int32.toUInt32 ((ir_chr 11 (Int32.toNatClampNeg x1)) &&& (255 : Int32)) % 65536).toInt32)], (iq_sh l, I, J, X))) (fun _ => rfl) ?_
  obtain ⟨hc_, h⟩ := iq_itn h
  have h := Option.some.inj h
  subst h
  exact iq_G_rif (c := narrow .char (.int ((Int32.toUInt32 ((ir_chr 11 (Int32.toNatClampNeg x1)) &&& (255 : Int32)) % 65536).toInt32)) = .int ((Int32.toUInt32 ((ir_chr 11 (Int32.toNatClampNeg x1)) &&& (255 : Int32)) % 65536).toInt32)) (fun _ => rfl) hc_
set_option maxRecDepth 100000 in
theorem zS_J0_charAt_5068e_5011_ok (l : Nat)  (x1 : Int32) (I : iq_I) (J : iq_J) (X : iq_X) {q : Int32} (h : zS_J0_charAt_5068e_5011 x1 I = some q) : iq_Cc 4 313 [.ref 5011, .int x1] (iq_sh l, I, J, X) (.inl (some (.int q)), (iq_sh l, I, J, X)) := by
  refine iq_Cc_of (L := [some (.ref 5011), some (.int x1)]) rfl rfl ?_
  unfold zS_J0_charAt_5068e_5011 at h
  refine iq_G_go (k := 1) (σ' := (1, [some (.ref 5011), some (.int x1)], [.ref 5011], (iq_sh l, I, J, X))) (fun _ => rfl) ?_
  obtain ⟨q1, hq1, h⟩ := iq_bnd h
  refine iq_G_call (σ' := (4, [some (.ref 5011), some (.int x1)], [.int q1], (iq_sh l, I, J, X))) (fun _ => rfl) (zS_J0_isLatin1_aae02_5011_ok l  I J X hq1) rfl rfl ?_
  rcases iq_ite h with ⟨hc_, h⟩ | ⟨hc_, h⟩
  · refine iq_G_pos (c := q1 = 0) (σ1 := (16, [some (.ref 5011), some (.int x1)], [], (iq_sh l, I, J, X))) (fun _ => rfl) hc_ ?_
    cases h
  · refine iq_G_neg (c := q1 = 0) (σ1 := (7, [some (.ref 5011), some (.int x1)], [], (iq_sh l, I, J, X))) (fun _ => rfl) hc_ ?_
    refine iq_G_go (k := 3) (σ' := (12, [some (.ref 5011), some (.int x1)], [.int x1, .ref 6011], (iq_sh l, I, J, X))) (fun _ => rfl) ?_
    obtain ⟨q2, hq2, h⟩ := iq_bnd h
    refine iq_G_call (σ' := (15, [some (.ref 5011), some (.int x1)], [.int q2], (iq_sh l, I, J, X))) (fun _ => rfl) (zS_J1_charAt_3b067_6011_ok l x1 I J X hq2) rfl rfl ?_
    obtain ⟨hc_, h⟩ := iq_itn h
    have h := Option.some.inj h
    subst h
    exact iq_G_rif (c := narrow .char (.int q2) = .int q2) (fun _ => rfl) hc_
set_option maxRecDepth 100000 in
theorem zT_isWord_62_5011_l28_bok (l : Nat)   (I : iq_I) (J : iq_J) (X : iq_X) (x2 : Int32)  {q : (Int32) ⊕ ((Unit) ⊕ (Int32))} (h : zT_isWord_62_5011_l28_b I x2 = some q) (r : iq_R × iq_M) (hc : ∀ v, q = .inl v → iq_Gg 4 142 (28, [some (.ref 62), some (.ref 5011), some (.int v)], [], (iq_sh l, I, J, X)) r) (hx : ∀ w, q = .inr w → (∀ a, w = .inl a → iq_Gg 4 142 (63, [none, none, none], [], (iq_sh l, I, J, X)) r) ∧ (∀ b, w = .inr b → r = (.inl (some (.int b)), (iq_sh l, I, J, X)))) : iq_Gg 4 142 (28, [some (.ref 62), some (.ref 5011), some (.int x2)], [], (iq_sh l, I, J, X)) r := by
  unfold zT_isWord_62_5011_l28_b at h
  refine iq_G_go (k := 2) (σ' := (30, [some (.ref 62), some (.ref 5011), some (.int x2)], [.ref 5011, .int x2], (iq_sh l, I, J, X))) (fun _ => rfl) ?_
  obtain ⟨q2, hq2, h⟩ := iq_bnd h
  refine iq_G_call (σ' := (33, [some (.ref 62), some (.ref 5011), some (.int x2)], [.int q2, .int x2], (iq_sh l, I, J, X))) (fun _ => rfl) (zS_J0_length_8abf5_5011_ok l  I J X hq2) rfl rfl ?_
  rcases iq_ite h with ⟨hc_, h⟩ | ⟨hc_, h⟩
  · refine iq_G_pos (c := q2 ≤ x2) (σ1 := (63, [some (.ref 62), some (.ref 5011), some (.int x2)], [], (iq_sh l, I, J, X))) (fun _ => rfl) hc_ ?_
    cases h
    exact iq_G_fg (L := [none, none, none]) trivial ((hx (.inl ()) rfl).1 () rfl)
  · refine iq_G_neg (c := q2 ≤ x2) (σ1 := (36, [some (.ref 62), some (.ref 5011), some (.int x2)], [], (iq_sh l, I, J, X))) (fun _ => rfl) hc_ ?_
    refine iq_G_go (k := 6) (σ' := (46, [some (.ref 62), some (.ref 5011), some (.int x2)], [.int ((I 62 1) + x2), .ref 2], (iq_sh l, I, J, X))) (fun _ => rfl) ?_
    obtain ⟨hc_, h⟩ := iq_itn h
    refine iq_G_pos (c := iq_in ((I 62 1) + x2) 700) (σ1 := (47, [some (.ref 62), some (.ref 5011), some (.int x2)], [.int (I 2 (Int32.toNatClampNeg ((I 62 1) + x2)))], (iq_sh l, I, J, X))) (fun _ => rfl) hc_ ?_
    refine iq_G_go (k := 2) (σ' := (49, [some (.ref 62), some (.ref 5011), some (.int x2)], [.int x2, .ref 5011, .int (I 2 (Int32.toNatClampNeg ((I 62 1) + x2)))], (iq_sh l, I, J, X))) (fun _ => rfl) ?_
    obtain ⟨q3, hq3, h⟩ := iq_bnd h
    refine iq_G_call (σ' := (52, [some (.ref 62), some (.ref 5011), some (.int x2)], [.int q3, .int (I 2 (Int32.toNatClampNeg ((I 62 1) + x2)))], (iq_sh l, I, J, X))) (fun _ => rfl) (zS_J0_charAt_5068e_5011_ok l x2 I J X hq3) rfl rfl ?_
    rcases iq_ite h with ⟨hc_, h⟩ | ⟨hc_, h⟩
    · refine iq_G_pos (c := (I 2 (Int32.toNatClampNeg ((I 62 1) + x2))) = q3) (σ1 := (57, [some (.ref 62), some (.ref 5011), some (.int x2)], [], (iq_sh l, I, J, X))) (fun _ => rfl) hc_ ?_
      refine iq_G_go (k := 2) (σ' := (28, [some (.ref 62), some (.ref 5011), some (.int (x2 + (1 : Int32)))], [], (iq_sh l, I, J, X))) (fun _ => rfl) ?_
      cases h
      exact iq_G_fg (L := [some (.ref 62), some (.ref 5011), some (.int (x2 + (1 : Int32)))]) (And.intro rfl (And.intro rfl (And.intro rfl trivial))) (hc (x2 + (1 : Int32)) rfl)
    · refine iq_G_neg (c := (I 2 (Int32.toNatClampNeg ((I 62 1) + x2))) = q3) (σ1 := (55, [some (.ref 62), some (.ref 5011), some (.int x2)], [], (iq_sh l, I, J, X))) (fun _ => rfl) hc_ ?_
      refine iq_G_go (k := 1) (σ' := (56, [some (.ref 62), some (.ref 5011), some (.int x2)], [.int (0 : Int32)], (iq_sh l, I, J, X))) (fun _ => rfl) ?_
      cases h
      obtain rfl := (hx _ rfl).2 _ rfl
      exact iq_G_ret (fun _ => rfl)
set_option maxRecDepth 100000 in
theorem zT_isWord_62_5011_l28_ok (l : Nat)   (I : iq_I) (J : iq_J) (X : iq_X) {n : Nat} {v : Int32} {w : (Unit) ⊕ (Int32)} (h : zT_isWord_62_5011_l28 I n v = some w) (r : iq_R × iq_M) (hq : (∀ a, w = .inl a → iq_Gg 4 142 (63, [none, none, none], [], (iq_sh l, I, J, X)) r) ∧ (∀ b, w = .inr b → r = (.inl (some (.int b)), (iq_sh l, I, J, X)))) : iq_Gg 4 142 (28, [some (.ref 62), some (.ref 5011), some (.int v)], [], (iq_sh l, I, J, X)) r :=
  iq_lp_ok (σ := fun v => (28, [some (.ref 62), some (.ref 5011), some (.int v)], [], (iq_sh l, I, J, X))) (Q := fun w r => (∀ a, w = .inl a → iq_Gg 4 142 (63, [none, none, none], [], (iq_sh l, I, J, X)) r) ∧ (∀ b, w = .inr b → r = (.inl (some (.int b)), (iq_sh l, I, J, X)))) (fun v q hv r h1 h2 => zT_isWord_62_5011_l28_bok l I J X v hv r h1 h2) h r hq
set_option maxRecDepth 100000 in
theorem zT_isWord_62_5011_ok (l : Nat)   (I : iq_I) (J : iq_J) (X : iq_X) {q : Int32} (h : zT_isWord_62_5011 I = some q) : iq_Cc 5 142 [.ref 62, .ref 5011] (iq_sh l, I, J, X) (.inl (some (.int q)), (iq_sh l, I, J, X)) := by
  refine iq_Cc_of (L := [some (.ref 62), some (.ref 5011), none]) rfl rfl ?_
  unfold zT_isWord_62_5011 at h
  refine iq_G_go (k := 3) (σ' := (5, [some (.ref 62), some (.ref 5011), none], [.int (1 : Int32), .int (I 62 0)], (iq_sh l, I, J, X))) (fun _ => rfl) ?_
  rcases iq_ite h with ⟨hc_, h⟩ | ⟨hc_, h⟩
  · refine iq_G_pos (c := ¬ (I 62 0) = (1 : Int32)) (σ1 := (24, [some (.ref 62), some (.ref 5011), none], [], (iq_sh l, I, J, X))) (fun _ => rfl) hc_ ?_
    refine iq_G_go (k := 1) (σ' := (25, [some (.ref 62), some (.ref 5011), none], [.int (0 : Int32)], (iq_sh l, I, J, X))) (fun _ => rfl) ?_
    cases h
    exact iq_G_ret (fun _ => rfl)
  · refine iq_G_neg (c := ¬ (I 62 0) = (1 : Int32)) (σ1 := (8, [some (.ref 62), some (.ref 5011), none], [], (iq_sh l, I, J, X))) (fun _ => rfl) hc_ ?_
    refine iq_G_go (k := 6) (σ' := (18, [some (.ref 62), some (.ref 5011), none], [.ref 5011, .int ((I 62 4) - (I 62 1))], (iq_sh l, I, J, X))) (fun _ => rfl) ?_
    obtain ⟨q1, hq1, h⟩ := iq_bnd h
    refine iq_G_call (σ' := (21, [some (.ref 62), some (.ref 5011), none], [.int q1, .int ((I 62 4) - (I 62 1))], (iq_sh l, I, J, X))) (fun _ => rfl) (zS_J0_length_8abf5_5011_ok l  I J X hq1) rfl rfl ?_
    rcases iq_ite h with ⟨hc_, h⟩ | ⟨hc_, h⟩
    · have st_ : ∀ (z_0 : Int32) (r_ : iq_R × iq_M), z_0 = q1 → iq_Gg 4 142 (26, [some (.ref 62), some (.ref 5011), none], [], (iq_sh l, I, J, X)) r_ → iq_Gg 4 142 (21, [some (.ref 62), some (.ref 5011), none], [.int q1, .int z_0], (iq_sh l, I, J, X)) r_ := fun z_0 r_ hc_ hg_ => iq_G_pos (c := z_0 = q1) (σ1 := (26, [some (.ref 62), some (.ref 5011), none], [], (iq_sh l, I, J, X))) (fun _ => rfl) hc_ hg_
      refine st_ ((I 62 4) - (I 62 1)) _ hc_ ?_
      clear st_
      refine iq_G_go (k := 2) (σ' := (28, [some (.ref 62), some (.ref 5011), some (.int (0 : Int32))], [], (iq_sh l, I, J, X))) (fun _ => rfl) ?_
      obtain ⟨w4, hw4, h⟩ := iq_bnd h
      refine iq_G_fg (L := [some (.ref 62), some (.ref 5011), some (.int (0 : Int32))]) (And.intro rfl (And.intro rfl (And.intro rfl trivial))) ?_
      refine zT_isWord_62_5011_l28_ok l I J X hw4 _ ⟨fun a5 ha => ?_, fun b6 hb => ?_⟩
      · subst ha
        replace h := ir_smL h
        show iq_Gg 4 142 (63, [none, none, none], [], (iq_sh l, I, J, X)) _
        refine iq_G_go (k := 1) (σ' := (64, [none, none, none], [.int (1 : Int32)], (iq_sh l, I, J, X))) (fun _ => rfl) ?_
        cases h
        exact iq_G_ret (fun _ => rfl)
      · subst hb
        replace h := ir_smR h
        cases h
        rfl
    · have st_ : ∀ (z_0 : Int32) (r_ : iq_R × iq_M), ¬ (z_0 = q1) → iq_Gg 4 142 (24, [some (.ref 62), some (.ref 5011), none], [], (iq_sh l, I, J, X)) r_ → iq_Gg 4 142 (21, [some (.ref 62), some (.ref 5011), none], [.int q1, .int z_0], (iq_sh l, I, J, X)) r_ := fun z_0 r_ hc_ hg_ => iq_G_neg (c := z_0 = q1) (σ1 := (24, [some (.ref 62), some (.ref 5011), none], [], (iq_sh l, I, J, X))) (fun _ => rfl) hc_ hg_
      refine st_ ((I 62 4) - (I 62 1)) _ hc_ ?_
      clear st_
      refine iq_G_go (k := 1) (σ' := (25, [some (.ref 62), some (.ref 5011), none], [.int (0 : Int32)], (iq_sh l, I, J, X))) (fun _ => rfl) ?_
      cases h
      exact iq_G_ret (fun _ => rfl)
set_option maxRecDepth 100000 in
theorem zS_J0_coder_7d493_5012_ok (l : Nat)   (I : iq_I) (J : iq_J) (X : iq_X) {q : Int32} (h : zS_J0_coder_7d493_5012 I = some q) : iq_Cc 1 316 [.ref 5012] (iq_sh l, I, J, X) (.inl (some (.int q)), (iq_sh l, I, J, X)) := by
  refine iq_Cc_of (L := [some (.ref 5012)]) rfl rfl ?_
  unfold zS_J0_coder_7d493_5012 at h
  refine iq_G_go (k := 1) (σ' := (3, [some (.ref 5012)], [.int (1 : Int32)], (iq_sh l, I, J, X))) (fun _ => rfl) ?_
  refine iq_G_go (k := 1) (σ' := (6, [some (.ref 5012)], [], (iq_sh l, I, J, X))) (fun _ => rfl) ?_
  refine iq_G_go (k := 3) (σ' := (14, [some (.ref 5012)], [.int (0 : Int32)], (iq_sh l, I, J, X))) (fun _ => rfl) ?_
  cases h
  exact iq_G_ret (fun _ => rfl)
set_option maxRecDepth 100000 in
theorem zS_J0_length_8abf5_5012_ok (l : Nat)   (I : iq_I) (J : iq_J) (X : iq_X) {q : Int32} (h : zS_J0_length_8abf5_5012 I = some q) : iq_Cc 2 312 [.ref 5012] (iq_sh l, I, J, X) (.inl (some (.int q)), (iq_sh l, I, J, X)) := by
  refine iq_Cc_of (L := [some (.ref 5012)]) rfl rfl ?_
  unfold zS_J0_length_8abf5_5012 at h
  refine iq_G_go (k := 4) (σ' := (6, [some (.ref 5012)], [.ref 5012, .int (3 : Int32)], (iq_sh l, I, J, X))) (fun _ => rfl) ?_
  obtain ⟨q1, hq1, h⟩ := iq_bnd h
  refine iq_G_call (σ' := (9, [some (.ref 5012)], [.int q1, .int (3 : Int32)], (iq_sh l, I, J, X))) (fun _ => rfl) (zS_J0_coder_7d493_5012_ok l  I J X hq1) rfl rfl ?_
  refine iq_G_go (k := 1) (σ' := (10, [some (.ref 5012)], [.int ((3 : Int32) >>> (q1 &&& 31))], (iq_sh l, I, J, X))) (fun _ => rfl) ?_
  cases h
  exact iq_G_ret (fun _ => rfl)
set_option maxRecDepth 100000 in
theorem zS_J0_isLatin1_aae02_5012_ok (l : Nat)   (I : iq_I) (J : iq_J) (X : iq_X) {q : Int32} (h : zS_J0_isLatin1_aae02_5012 I = some q) : iq_Cc 1 317 [.ref 5012] (iq_sh l, I, J, X) (.inl (some (.int q)), (iq_sh l, I, J, X)) := by
  refine iq_Cc_of (L := [some (.ref 5012)]) rfl rfl ?_
  unfold zS_J0_isLatin1_aae02_5012 at h
  refine iq_G_go (k := 1) (σ' := (3, [some (.ref 5012)], [.int (1 : Int32)], (iq_sh l, I, J, X))) (fun _ => rfl) ?_
  refine iq_G_go (k := 1) (σ' := (6, [some (.ref 5012)], [], (iq_sh l, I, J, X))) (fun _ => rfl) ?_
  refine iq_G_go (k := 2) (σ' := (10, [some (.ref 5012)], [.int (0 : Int32)], (iq_sh l, I, J, X))) (fun _ => rfl) ?_
  refine iq_G_go (k := 1) (σ' := (13, [some (.ref 5012)], [], (iq_sh l, I, J, X))) (fun _ => rfl) ?_
  refine iq_G_go (k := 2) (σ' := (18, [some (.ref 5012)], [.int (1 : Int32)], (iq_sh l, I, J, X))) (fun _ => rfl) ?_
  cases h
  exact iq_G_ret (fun _ => rfl)
set_option maxRecDepth 100000 in
theorem zS_J1_charAt_3b067_6012_ok (l : Nat)  (x1 : Int32) (I : iq_I) (J : iq_J) (X : iq_X) {q : Int32} (h : zS_J1_charAt_3b067_6012 x1 I = some q) : iq_Cc 3 319 [.ref 6012, .int x1] (iq_sh l, I, J, X) (.inl (some (.int q)), (iq_sh l, I, J, X)) := by
  refine iq_Cc_of (L := [some (.ref 6012), some (.int x1)]) rfl rfl ?_
  unfold zS_J1_charAt_3b067_6012 at h
  refine iq_G_go (k := 3) (σ' := (3, [some (.ref 6012), some (.int x1)], [.int (3 : Int32), .int x1], (iq_sh l, I, J, X))) (fun _ => rfl) ?_
  obtain ⟨q1, hq1, h⟩ := iq_bnd h
  refine iq_G_call (σ' := (6, [some (.ref 6012), some (.int x1)], [], (iq_sh l, I, J, X))) (fun _ => rfl) (zS_J0_checkIndex_df160_ok l x1 (3 : Int32) I J X hq1) rfl rfl ?_
  refine iq_G_go (k := 2) (σ' := (8, [some (.ref 6012), some (.int x1)], [.int x1, .ref 6012], (iq_sh l, I, J, X))) (fun _ => rfl) ?_
  obtain ⟨hc_, h⟩ := iq_itn h
  refine iq_G_pos (c := iq_in x1 3) (σ1 := (9, [some (.ref 6012), some (.int x1)], [.int (ir_chr 12 (Int32.toNatClampNeg x1))], (iq_sh l, I, J, X))) (fun _ => rfl) hc_ ?_
  refine iq_G_go (k := 3) (σ' := (14, [some (.ref 6012), some (.int x1)], [.int ((Int32.toUInt32 ((ir_chr 12 (Int32.toNatClampNeg x1)) &&& (255 : Int32)) % 65536).toInt32)], (iq_sh l, I, J, X))) (fun _ => rfl) ?_
  obtain ⟨hc_, h⟩ := iq_itn h
  have h := Option.some.inj h
  subst h
  exact iq_G_rif (c := narrow .char (.int ((Int32.toUInt32 ((ir_chr 12 (Int32.toNatClampNeg x1)) &&& (255 : Int32)) % 65536).toInt32)) = .int ((Int32.toUInt32 ((ir_chr 12 (Int32.toNatClampNeg x1)) &&& (255 : Int32)) % 65536).toInt32)) (fun _ => rfl) hc_
set_option maxRecDepth 100000 in
theorem zS_J0_charAt_5068e_5012_ok (l : Nat)  (x1 : Int32) (I : iq_I) (J : iq_J) (X : iq_X) {q : Int32} (h : zS_J0_charAt_5068e_5012 x1 I = some q) : iq_Cc 4 313 [.ref 5012, .int x1] (iq_sh l, I, J, X) (.inl (some (.int q)), (iq_sh l, I, J, X)) := by
  refine iq_Cc_of (L := [some (.ref 5012), some (.int x1)]) rfl rfl ?_
  unfold zS_J0_charAt_5068e_5012 at h
  refine iq_G_go (k := 1) (σ' := (1, [some (.ref 5012), some (.int x1)], [.ref 5012], (iq_sh l, I, J, X))) (fun _ => rfl) ?_
  obtain ⟨q1, hq1, h⟩ := iq_bnd h
  refine iq_G_call (σ' := (4, [some (.ref 5012), some (.int x1)], [.int q1], (iq_sh l, I, J, X))) (fun _ => rfl) (zS_J0_isLatin1_aae02_5012_ok l  I J X hq1) rfl rfl ?_
  rcases iq_ite h with ⟨hc_, h⟩ | ⟨hc_, h⟩
  · refine iq_G_pos (c := q1 = 0) (σ1 := (16, [some (.ref 5012), some (.int x1)], [], (iq_sh l, I, J, X))) (fun _ => rfl) hc_ ?_
    cases h
  · refine iq_G_neg (c := q1 = 0) (σ1 := (7, [some (.ref 5012), some (.int x1)], [], (iq_sh l, I, J, X))) (fun _ => rfl) hc_ ?_
    refine iq_G_go (k := 3) (σ' := (12, [some (.ref 5012), some (.int x1)], [.int x1, .ref 6012], (iq_sh l, I, J, X))) (fun _ => rfl) ?_
    obtain ⟨q2, hq2, h⟩ := iq_bnd h
    refine iq_G_call (σ' := (15, [some (.ref 5012), some (.int x1)], [.int q2], (iq_sh l, I, J, X))) (fun _ => rfl) (zS_J1_charAt_3b067_6012_ok l x1 I J X hq2) rfl rfl ?_
    obtain ⟨hc_, h⟩ := iq_itn h
    have h := Option.some.inj h
    subst h
    exact iq_G_rif (c := narrow .char (.int q2) = .int q2) (fun _ => rfl) hc_
set_option maxRecDepth 100000 in
theorem zT_isWord_62_5012_l28_bok (l : Nat)   (I : iq_I) (J : iq_J) (X : iq_X) (x2 : Int32)  {q : (Int32) ⊕ ((Unit) ⊕ (Int32))} (h : zT_isWord_62_5012_l28_b I x2 = some q) (r : iq_R × iq_M) (hc : ∀ v, q = .inl v → iq_Gg 4 142 (28, [some (.ref 62), some (.ref 5012), some (.int v)], [], (iq_sh l, I, J, X)) r) (hx : ∀ w, q = .inr w → (∀ a, w = .inl a → iq_Gg 4 142 (63, [none, none, none], [], (iq_sh l, I, J, X)) r) ∧ (∀ b, w = .inr b → r = (.inl (some (.int b)), (iq_sh l, I, J, X)))) : iq_Gg 4 142 (28, [some (.ref 62), some (.ref 5012), some (.int x2)], [], (iq_sh l, I, J, X)) r := by
  unfold zT_isWord_62_5012_l28_b at h
  refine iq_G_go (k := 2) (σ' := (30, [some (.ref 62), some (.ref 5012), some (.int x2)], [.ref 5012, .int x2], (iq_sh l, I, J, X))) (fun _ => rfl) ?_
  obtain ⟨q2, hq2, h⟩ := iq_bnd h
  refine iq_G_call (σ' := (33, [some (.ref 62), some (.ref 5012), some (.int x2)], [.int q2, .int x2], (iq_sh l, I, J, X))) (fun _ => rfl) (zS_J0_length_8abf5_5012_ok l  I J X hq2) rfl rfl ?_
  rcases iq_ite h with ⟨hc_, h⟩ | ⟨hc_, h⟩
  · refine iq_G_pos (c := q2 ≤ x2) (σ1 := (63, [some (.ref 62), some (.ref 5012), some (.int x2)], [], (iq_sh l, I, J, X))) (fun _ => rfl) hc_ ?_
    cases h
    exact iq_G_fg (L := [none, none, none]) trivial ((hx (.inl ()) rfl).1 () rfl)
  · refine iq_G_neg (c := q2 ≤ x2) (σ1 := (36, [some (.ref 62), some (.ref 5012), some (.int x2)], [], (iq_sh l, I, J, X))) (fun _ => rfl) hc_ ?_
    refine iq_G_go (k := 6) (σ' := (46, [some (.ref 62), some (.ref 5012), some (.int x2)], [.int ((I 62 1) + x2), .ref 2], (iq_sh l, I, J, X))) (fun _ => rfl) ?_
    obtain ⟨hc_, h⟩ := iq_itn h
    refine iq_G_pos (c := iq_in ((I 62 1) + x2) 700) (σ1 := (47, [some (.ref 62), some (.ref 5012), some (.int x2)], [.int (I 2 (Int32.toNatClampNeg ((I 62 1) + x2)))], (iq_sh l, I, J, X))) (fun _ => rfl) hc_ ?_
    refine iq_G_go (k := 2) (σ' := (49, [some (.ref 62), some (.ref 5012), some (.int x2)], [.int x2, .ref 5012, .int (I 2 (Int32.toNatClampNeg ((I 62 1) + x2)))], (iq_sh l, I, J, X))) (fun _ => rfl) ?_
    obtain ⟨q3, hq3, h⟩ := iq_bnd h
    refine iq_G_call (σ' := (52, [some (.ref 62), some (.ref 5012), some (.int x2)], [.int q3, .int (I 2 (Int32.toNatClampNeg ((I 62 1) + x2)))], (iq_sh l, I, J, X))) (fun _ => rfl) (zS_J0_charAt_5068e_5012_ok l x2 I J X hq3) rfl rfl ?_
    rcases iq_ite h with ⟨hc_, h⟩ | ⟨hc_, h⟩
    · refine iq_G_pos (c := (I 2 (Int32.toNatClampNeg ((I 62 1) + x2))) = q3) (σ1 := (57, [some (.ref 62), some (.ref 5012), some (.int x2)], [], (iq_sh l, I, J, X))) (fun _ => rfl) hc_ ?_
      refine iq_G_go (k := 2) (σ' := (28, [some (.ref 62), some (.ref 5012), some (.int (x2 + (1 : Int32)))], [], (iq_sh l, I, J, X))) (fun _ => rfl) ?_
      cases h
      exact iq_G_fg (L := [some (.ref 62), some (.ref 5012), some (.int (x2 + (1 : Int32)))]) (And.intro rfl (And.intro rfl (And.intro rfl trivial))) (hc (x2 + (1 : Int32)) rfl)
    · refine iq_G_neg (c := (I 2 (Int32.toNatClampNeg ((I 62 1) + x2))) = q3) (σ1 := (55, [some (.ref 62), some (.ref 5012), some (.int x2)], [], (iq_sh l, I, J, X))) (fun _ => rfl) hc_ ?_
      refine iq_G_go (k := 1) (σ' := (56, [some (.ref 62), some (.ref 5012), some (.int x2)], [.int (0 : Int32)], (iq_sh l, I, J, X))) (fun _ => rfl) ?_
      cases h
      obtain rfl := (hx _ rfl).2 _ rfl
      exact iq_G_ret (fun _ => rfl)
set_option maxRecDepth 100000 in
theorem zT_isWord_62_5012_l28_ok (l : Nat)   (I : iq_I) (J : iq_J) (X : iq_X) {n : Nat} {v : Int32} {w : (Unit) ⊕ (Int32)} (h : zT_isWord_62_5012_l28 I n v = some w) (r : iq_R × iq_M) (hq : (∀ a, w = .inl a → iq_Gg 4 142 (63, [none, none, none], [], (iq_sh l, I, J, X)) r) ∧ (∀ b, w = .inr b → r = (.inl (some (.int b)), (iq_sh l, I, J, X)))) : iq_Gg 4 142 (28, [some (.ref 62), some (.ref 5012), some (.int v)], [], (iq_sh l, I, J, X)) r :=
  iq_lp_ok (σ := fun v => (28, [some (.ref 62), some (.ref 5012), some (.int v)], [], (iq_sh l, I, J, X))) (Q := fun w r => (∀ a, w = .inl a → iq_Gg 4 142 (63, [none, none, none], [], (iq_sh l, I, J, X)) r) ∧ (∀ b, w = .inr b → r = (.inl (some (.int b)), (iq_sh l, I, J, X)))) (fun v q hv r h1 h2 => zT_isWord_62_5012_l28_bok l I J X v hv r h1 h2) h r hq
set_option maxRecDepth 100000 in
theorem zT_isWord_62_5012_ok (l : Nat)   (I : iq_I) (J : iq_J) (X : iq_X) {q : Int32} (h : zT_isWord_62_5012 I = some q) : iq_Cc 5 142 [.ref 62, .ref 5012] (iq_sh l, I, J, X) (.inl (some (.int q)), (iq_sh l, I, J, X)) := by
  refine iq_Cc_of (L := [some (.ref 62), some (.ref 5012), none]) rfl rfl ?_
  unfold zT_isWord_62_5012 at h
  refine iq_G_go (k := 3) (σ' := (5, [some (.ref 62), some (.ref 5012), none], [.int (1 : Int32), .int (I 62 0)], (iq_sh l, I, J, X))) (fun _ => rfl) ?_
  rcases iq_ite h with ⟨hc_, h⟩ | ⟨hc_, h⟩
  · refine iq_G_pos (c := ¬ (I 62 0) = (1 : Int32)) (σ1 := (24, [some (.ref 62), some (.ref 5012), none], [], (iq_sh l, I, J, X))) (fun _ => rfl) hc_ ?_
    refine iq_G_go (k := 1) (σ' := (25, [some (.ref 62), some (.ref 5012), none], [.int (0 : Int32)], (iq_sh l, I, J, X))) (fun _ => rfl) ?_
    cases h
    exact iq_G_ret (fun _ => rfl)
  · refine iq_G_neg (c := ¬ (I 62 0) = (1 : Int32)) (σ1 := (8, [some (.ref 62), some (.ref 5012), none], [], (iq_sh l, I, J, X))) (fun _ => rfl) hc_ ?_
    refine iq_G_go (k := 6) (σ' := (18, [some (.ref 62), some (.ref 5012), none], [.ref 5012, .int ((I 62 4) - (I 62 1))], (iq_sh l, I, J, X))) (fun _ => rfl) ?_
    obtain ⟨q1, hq1, h⟩ := iq_bnd h
    refine iq_G_call (σ' := (21, [some (.ref 62), some (.ref 5012), none], [.int q1, .int ((I 62 4) - (I 62 1))], (iq_sh l, I, J, X))) (fun _ => rfl) (zS_J0_length_8abf5_5012_ok l  I J X hq1) rfl rfl ?_
    rcases iq_ite h with ⟨hc_, h⟩ | ⟨hc_, h⟩
    · have st_ : ∀ (z_0 : Int32) (r_ : iq_R × iq_M), z_0 = q1 → iq_Gg 4 142 (26, [some (.ref 62), some (.ref 5012), none], [], (iq_sh l, I, J, X)) r_ → iq_Gg 4 142 (21, [some (.ref 62), some (.ref 5012), none], [.int q1, .int z_0], (iq_sh l, I, J, X)) r_ := fun z_0 r_ hc_ hg_ => iq_G_pos (c := z_0 = q1) (σ1 := (26, [some (.ref 62), some (.ref 5012), none], [], (iq_sh l, I, J, X))) (fun _ => rfl) hc_ hg_
      refine st_ ((I 62 4) - (I 62 1)) _ hc_ ?_
      clear st_
      refine iq_G_go (k := 2) (σ' := (28, [some (.ref 62), some (.ref 5012), some (.int (0 : Int32))], [], (iq_sh l, I, J, X))) (fun _ => rfl) ?_
      obtain ⟨w4, hw4, h⟩ := iq_bnd h
      refine iq_G_fg (L := [some (.ref 62), some (.ref 5012), some (.int (0 : Int32))]) (And.intro rfl (And.intro rfl (And.intro rfl trivial))) ?_
      refine zT_isWord_62_5012_l28_ok l I J X hw4 _ ⟨fun a5 ha => ?_, fun b6 hb => ?_⟩
      · subst ha
        replace h := ir_smL h
        show iq_Gg 4 142 (63, [none, none, none], [], (iq_sh l, I, J, X)) _
        refine iq_G_go (k := 1) (σ' := (64, [none, none, none], [.int (1 : Int32)], (iq_sh l, I, J, X))) (fun _ => rfl) ?_
        cases h
        exact iq_G_ret (fun _ => rfl)
      · subst hb
        replace h := ir_smR h
        cases h
        rfl
    · have st_ : ∀ (z_0 : Int32) (r_ : iq_R × iq_M), ¬ (z_0 = q1) → iq_Gg 4 142 (24, [some (.ref 62), some (.ref 5012), none], [], (iq_sh l, I, J, X)) r_ → iq_Gg 4 142 (21, [some (.ref 62), some (.ref 5012), none], [.int q1, .int z_0], (iq_sh l, I, J, X)) r_ := fun z_0 r_ hc_ hg_ => iq_G_neg (c := z_0 = q1) (σ1 := (24, [some (.ref 62), some (.ref 5012), none], [], (iq_sh l, I, J, X))) (fun _ => rfl) hc_ hg_
      refine st_ ((I 62 4) - (I 62 1)) _ hc_ ?_
      clear st_
      refine iq_G_go (k := 1) (σ' := (25, [some (.ref 62), some (.ref 5012), none], [.int (0 : Int32)], (iq_sh l, I, J, X))) (fun _ => rfl) ?_
      cases h
      exact iq_G_ret (fun _ => rfl)
set_option maxRecDepth 100000 in
theorem zS_J0_coder_7d493_5013_ok (l : Nat)   (I : iq_I) (J : iq_J) (X : iq_X) {q : Int32} (h : zS_J0_coder_7d493_5013 I = some q) : iq_Cc 1 316 [.ref 5013] (iq_sh l, I, J, X) (.inl (some (.int q)), (iq_sh l, I, J, X)) := by
  refine iq_Cc_of (L := [some (.ref 5013)]) rfl rfl ?_
  unfold zS_J0_coder_7d493_5013 at h
  refine iq_G_go (k := 1) (σ' := (3, [some (.ref 5013)], [.int (1 : Int32)], (iq_sh l, I, J, X))) (fun _ => rfl) ?_
  refine iq_G_go (k := 1) (σ' := (6, [some (.ref 5013)], [], (iq_sh l, I, J, X))) (fun _ => rfl) ?_
  refine iq_G_go (k := 3) (σ' := (14, [some (.ref 5013)], [.int (0 : Int32)], (iq_sh l, I, J, X))) (fun _ => rfl) ?_
  cases h
  exact iq_G_ret (fun _ => rfl)
set_option maxRecDepth 100000 in
theorem zS_J0_length_8abf5_5013_ok (l : Nat)   (I : iq_I) (J : iq_J) (X : iq_X) {q : Int32} (h : zS_J0_length_8abf5_5013 I = some q) : iq_Cc 2 312 [.ref 5013] (iq_sh l, I, J, X) (.inl (some (.int q)), (iq_sh l, I, J, X)) := by
  refine iq_Cc_of (L := [some (.ref 5013)]) rfl rfl ?_
  unfold zS_J0_length_8abf5_5013 at h
  refine iq_G_go (k := 4) (σ' := (6, [some (.ref 5013)], [.ref 5013, .int (4 : Int32)], (iq_sh l, I, J, X))) (fun _ => rfl) ?_
  obtain ⟨q1, hq1, h⟩ := iq_bnd h
  refine iq_G_call (σ' := (9, [some (.ref 5013)], [.int q1, .int (4 : Int32)], (iq_sh l, I, J, X))) (fun _ => rfl) (zS_J0_coder_7d493_5013_ok l  I J X hq1) rfl rfl ?_
  refine iq_G_go (k := 1) (σ' := (10, [some (.ref 5013)], [.int ((4 : Int32) >>> (q1 &&& 31))], (iq_sh l, I, J, X))) (fun _ => rfl) ?_
  cases h
  exact iq_G_ret (fun _ => rfl)
set_option maxRecDepth 100000 in
theorem zS_J0_isLatin1_aae02_5013_ok (l : Nat)   (I : iq_I) (J : iq_J) (X : iq_X) {q : Int32} (h : zS_J0_isLatin1_aae02_5013 I = some q) : iq_Cc 1 317 [.ref 5013] (iq_sh l, I, J, X) (.inl (some (.int q)), (iq_sh l, I, J, X)) := by
  refine iq_Cc_of (L := [some (.ref 5013)]) rfl rfl ?_
  unfold zS_J0_isLatin1_aae02_5013 at h
  refine iq_G_go (k := 1) (σ' := (3, [some (.ref 5013)], [.int (1 : Int32)], (iq_sh l, I, J, X))) (fun _ => rfl) ?_
  refine iq_G_go (k := 1) (σ' := (6, [some (.ref 5013)], [], (iq_sh l, I, J, X))) (fun _ => rfl) ?_
  refine iq_G_go (k := 2) (σ' := (10, [some (.ref 5013)], [.int (0 : Int32)], (iq_sh l, I, J, X))) (fun _ => rfl) ?_
  refine iq_G_go (k := 1) (σ' := (13, [some (.ref 5013)], [], (iq_sh l, I, J, X))) (fun _ => rfl) ?_
  refine iq_G_go (k := 2) (σ' := (18, [some (.ref 5013)], [.int (1 : Int32)], (iq_sh l, I, J, X))) (fun _ => rfl) ?_
  cases h
  exact iq_G_ret (fun _ => rfl)
set_option maxRecDepth 100000 in
theorem zS_J1_charAt_3b067_6013_ok (l : Nat)  (x1 : Int32) (I : iq_I) (J : iq_J) (X : iq_X) {q : Int32} (h : zS_J1_charAt_3b067_6013 x1 I = some q) : iq_Cc 3 319 [.ref 6013, .int x1] (iq_sh l, I, J, X) (.inl (some (.int q)), (iq_sh l, I, J, X)) := by
  refine iq_Cc_of (L := [some (.ref 6013), some (.int x1)]) rfl rfl ?_
  unfold zS_J1_charAt_3b067_6013 at h
  refine iq_G_go (k := 3) (σ' := (3, [some (.ref 6013), some (.int x1)], [.int (4 : Int32), .int x1], (iq_sh l, I, J, X))) (fun _ => rfl) ?_
  obtain ⟨q1, hq1, h⟩ := iq_bnd h
  refine iq_G_call (σ' := (6, [some (.ref 6013), some (.int x1)], [], (iq_sh l, I, J, X))) (fun _ => rfl) (zS_J0_checkIndex_df160_ok l x1 (4 : Int32) I J X hq1) rfl rfl ?_
  refine iq_G_go (k := 2) (σ' := (8, [some (.ref 6013), some (.int x1)], [.int x1, .ref 6013], (iq_sh l, I, J, X))) (fun _ => rfl) ?_
  obtain ⟨hc_, h⟩ := iq_itn h
  refine iq_G_pos (c := iq_in x1 4) (σ1 := (9, [some (.ref 6013), some (.int x1)], [.int (ir_chr 13 (Int32.toNatClampNeg x1))], (iq_sh l, I, J, X))) (fun _ => rfl) hc_ ?_
  refine iq_G_go (k := 3) (σ' := (14, [some (.ref 6013), some (.int x1)], [.int ((Int32.toUInt32 ((ir_chr 13 (Int32.toNatClampNeg x1)) &&& (255 : Int32)) % 65536).toInt32)], (iq_sh l, I, J, X))) (fun _ => rfl) ?_
  obtain ⟨hc_, h⟩ := iq_itn h
  have h := Option.some.inj h
  subst h
  exact iq_G_rif (c := narrow .char (.int ((Int32.toUInt32 ((ir_chr 13 (Int32.toNatClampNeg x1)) &&& (255 : Int32)) % 65536).toInt32)) = .int ((Int32.toUInt32 ((ir_chr 13 (Int32.toNatClampNeg x1)) &&& (255 : Int32)) % 65536).toInt32)) (fun _ => rfl) hc_
set_option maxRecDepth 100000 in
theorem zS_J0_charAt_5068e_5013_ok (l : Nat)  (x1 : Int32) (I : iq_I) (J : iq_J) (X : iq_X) {q : Int32} (h : zS_J0_charAt_5068e_5013 x1 I = some q) : iq_Cc 4 313 [.ref 5013, .int x1] (iq_sh l, I, J, X) (.inl (some (.int q)), (iq_sh l, I, J, X)) := by
  refine iq_Cc_of (L := [some (.ref 5013), some (.int x1)]) rfl rfl ?_
  unfold zS_J0_charAt_5068e_5013 at h
  refine iq_G_go (k := 1) (σ' := (1, [some (.ref 5013), some (.int x1)], [.ref 5013], (iq_sh l, I, J, X))) (fun _ => rfl) ?_
  obtain ⟨q1, hq1, h⟩ := iq_bnd h
  refine iq_G_call (σ' := (4, [some (.ref 5013), some (.int x1)], [.int q1], (iq_sh l, I, J, X))) (fun _ => rfl) (zS_J0_isLatin1_aae02_5013_ok l  I J X hq1) rfl rfl ?_
  rcases iq_ite h with ⟨hc_, h⟩ | ⟨hc_, h⟩
  · refine iq_G_pos (c := q1 = 0) (σ1 := (16, [some (.ref 5013), some (.int x1)], [], (iq_sh l, I, J, X))) (fun _ => rfl) hc_ ?_
    cases h
  · refine iq_G_neg (c := q1 = 0) (σ1 := (7, [some (.ref 5013), some (.int x1)], [], (iq_sh l, I, J, X))) (fun _ => rfl) hc_ ?_
    refine iq_G_go (k := 3) (σ' := (12, [some (.ref 5013), some (.int x1)], [.int x1, .ref 6013], (iq_sh l, I, J, X))) (fun _ => rfl) ?_
    obtain ⟨q2, hq2, h⟩ := iq_bnd h
    refine iq_G_call (σ' := (15, [some (.ref 5013), some (.int x1)], [.int q2], (iq_sh l, I, J, X))) (fun _ => rfl) (zS_J1_charAt_3b067_6013_ok l x1 I J X hq2) rfl rfl ?_
    obtain ⟨hc_, h⟩ := iq_itn h
    have h := Option.some.inj h
    subst h
    exact iq_G_rif (c := narrow .char (.int q2) = .int q2) (fun _ => rfl) hc_
set_option maxRecDepth 100000 in
theorem zT_isWord_62_5013_l28_bok (l : Nat)   (I : iq_I) (J : iq_J) (X : iq_X) (x2 : Int32)  {q : (Int32) ⊕ ((Unit) ⊕ (Int32))} (h : zT_isWord_62_5013_l28_b I x2 = some q) (r : iq_R × iq_M) (hc : ∀ v, q = .inl v → iq_Gg 4 142 (28, [some (.ref 62), some (.ref 5013), some (.int v)], [], (iq_sh l, I, J, X)) r) (hx : ∀ w, q = .inr w → (∀ a, w = .inl a → iq_Gg 4 142 (63, [none, none, none], [], (iq_sh l, I, J, X)) r) ∧ (∀ b, w = .inr b → r = (.inl (some (.int b)), (iq_sh l, I, J, X)))) : iq_Gg 4 142 (28, [some (.ref 62), some (.ref 5013), some (.int x2)], [], (iq_sh l, I, J, X)) r := by
  unfold zT_isWord_62_5013_l28_b at h
  refine iq_G_go (k := 2) (σ' := (30, [some (.ref 62), some (.ref 5013), some (.int x2)], [.ref 5013, .int x2], (iq_sh l, I, J, X))) (fun _ => rfl) ?_
  obtain ⟨q2, hq2, h⟩ := iq_bnd h
  refine iq_G_call (σ' := (33, [some (.ref 62), some (.ref 5013), some (.int x2)], [.int q2, .int x2], (iq_sh l, I, J, X))) (fun _ => rfl) (zS_J0_length_8abf5_5013_ok l  I J X hq2) rfl rfl ?_
  rcases iq_ite h with ⟨hc_, h⟩ | ⟨hc_, h⟩
  · refine iq_G_pos (c := q2 ≤ x2) (σ1 := (63, [some (.ref 62), some (.ref 5013), some (.int x2)], [], (iq_sh l, I, J, X))) (fun _ => rfl) hc_ ?_
    cases h
    exact iq_G_fg (L := [none, none, none]) trivial ((hx (.inl ()) rfl).1 () rfl)
  · refine iq_G_neg (c := q2 ≤ x2) (σ1 := (36, [some (.ref 62), some (.ref 5013), some (.int x2)], [], (iq_sh l, I, J, X))) (fun _ => rfl) hc_ ?_
    refine iq_G_go (k := 6) (σ' := (46, [some (.ref 62), some (.ref 5013), some (.int x2)], [.int ((I 62 1) + x2), .ref 2], (iq_sh l, I, J, X))) (fun _ => rfl) ?_
    obtain ⟨hc_, h⟩ := iq_itn h
    refine iq_G_pos (c := iq_in ((I 62 1) + x2) 700) (σ1 := (47, [some (.ref 62), some (.ref 5013), some (.int x2)], [.int (I 2 (Int32.toNatClampNeg ((I 62 1) + x2)))], (iq_sh l, I, J, X))) (fun _ => rfl) hc_ ?_
    refine iq_G_go (k := 2) (σ' := (49, [some (.ref 62), some (.ref 5013), some (.int x2)], [.int x2, .ref 5013, .int (I 2 (Int32.toNatClampNeg ((I 62 1) + x2)))], (iq_sh l, I, J, X))) (fun _ => rfl) ?_
    obtain ⟨q3, hq3, h⟩ := iq_bnd h
    refine iq_G_call (σ' := (52, [some (.ref 62), some (.ref 5013), some (.int x2)], [.int q3, .int (I 2 (Int32.toNatClampNeg ((I 62 1) + x2)))], (iq_sh l, I, J, X))) (fun _ => rfl) (zS_J0_charAt_5068e_5013_ok l x2 I J X hq3) rfl rfl ?_
    rcases iq_ite h with ⟨hc_, h⟩ | ⟨hc_, h⟩
    · refine iq_G_pos (c := (I 2 (Int32.toNatClampNeg ((I 62 1) + x2))) = q3) (σ1 := (57, [some (.ref 62), some (.ref 5013), some (.int x2)], [], (iq_sh l, I, J, X))) (fun _ => rfl) hc_ ?_
      refine iq_G_go (k := 2) (σ' := (28, [some (.ref 62), some (.ref 5013), some (.int (x2 + (1 : Int32)))], [], (iq_sh l, I, J, X))) (fun _ => rfl) ?_
      cases h
      exact iq_G_fg (L := [some (.ref 62), some (.ref 5013), some (.int (x2 + (1 : Int32)))]) (And.intro rfl (And.intro rfl (And.intro rfl trivial))) (hc (x2 + (1 : Int32)) rfl)
    · refine iq_G_neg (c := (I 2 (Int32.toNatClampNeg ((I 62 1) + x2))) = q3) (σ1 := (55, [some (.ref 62), some (.ref 5013), some (.int x2)], [], (iq_sh l, I, J, X))) (fun _ => rfl) hc_ ?_
      refine iq_G_go (k := 1) (σ' := (56, [some (.ref 62), some (.ref 5013), some (.int x2)], [.int (0 : Int32)], (iq_sh l, I, J, X))) (fun _ => rfl) ?_
      cases h
      obtain rfl := (hx _ rfl).2 _ rfl
      exact iq_G_ret (fun _ => rfl)
set_option maxRecDepth 100000 in
theorem zT_isWord_62_5013_l28_ok (l : Nat)   (I : iq_I) (J : iq_J) (X : iq_X) {n : Nat} {v : Int32} {w : (Unit) ⊕ (Int32)} (h : zT_isWord_62_5013_l28 I n v = some w) (r : iq_R × iq_M) (hq : (∀ a, w = .inl a → iq_Gg 4 142 (63, [none, none, none], [], (iq_sh l, I, J, X)) r) ∧ (∀ b, w = .inr b → r = (.inl (some (.int b)), (iq_sh l, I, J, X)))) : iq_Gg 4 142 (28, [some (.ref 62), some (.ref 5013), some (.int v)], [], (iq_sh l, I, J, X)) r :=
  iq_lp_ok (σ := fun v => (28, [some (.ref 62), some (.ref 5013), some (.int v)], [], (iq_sh l, I, J, X))) (Q := fun w r => (∀ a, w = .inl a → iq_Gg 4 142 (63, [none, none, none], [], (iq_sh l, I, J, X)) r) ∧ (∀ b, w = .inr b → r = (.inl (some (.int b)), (iq_sh l, I, J, X)))) (fun v q hv r h1 h2 => zT_isWord_62_5013_l28_bok l I J X v hv r h1 h2) h r hq
set_option maxRecDepth 100000 in
theorem zT_isWord_62_5013_ok (l : Nat)   (I : iq_I) (J : iq_J) (X : iq_X) {q : Int32} (h : zT_isWord_62_5013 I = some q) : iq_Cc 5 142 [.ref 62, .ref 5013] (iq_sh l, I, J, X) (.inl (some (.int q)), (iq_sh l, I, J, X)) := by
  refine iq_Cc_of (L := [some (.ref 62), some (.ref 5013), none]) rfl rfl ?_
  unfold zT_isWord_62_5013 at h
  refine iq_G_go (k := 3) (σ' := (5, [some (.ref 62), some (.ref 5013), none], [.int (1 : Int32), .int (I 62 0)], (iq_sh l, I, J, X))) (fun _ => rfl) ?_
  rcases iq_ite h with ⟨hc_, h⟩ | ⟨hc_, h⟩
  · refine iq_G_pos (c := ¬ (I 62 0) = (1 : Int32)) (σ1 := (24, [some (.ref 62), some (.ref 5013), none], [], (iq_sh l, I, J, X))) (fun _ => rfl) hc_ ?_
    refine iq_G_go (k := 1) (σ' := (25, [some (.ref 62), some (.ref 5013), none], [.int (0 : Int32)], (iq_sh l, I, J, X))) (fun _ => rfl) ?_
    cases h
    exact iq_G_ret (fun _ => rfl)
  · refine iq_G_neg (c := ¬ (I 62 0) = (1 : Int32)) (σ1 := (8, [some (.ref 62), some (.ref 5013), none], [], (iq_sh l, I, J, X))) (fun _ => rfl) hc_ ?_
    refine iq_G_go (k := 6) (σ' := (18, [some (.ref 62), some (.ref 5013), none], [.ref 5013, .int ((I 62 4) - (I 62 1))], (iq_sh l, I, J, X))) (fun _ => rfl) ?_
    obtain ⟨q1, hq1, h⟩ := iq_bnd h
    refine iq_G_call (σ' := (21, [some (.ref 62), some (.ref 5013), none], [.int q1, .int ((I 62 4) - (I 62 1))], (iq_sh l, I, J, X))) (fun _ => rfl) (zS_J0_length_8abf5_5013_ok l  I J X hq1) rfl rfl ?_
    rcases iq_ite h with ⟨hc_, h⟩ | ⟨hc_, h⟩
    · have st_ : ∀ (z_0 : Int32) (r_ : iq_R × iq_M), z_0 = q1 → iq_Gg 4 142 (26, [some (.ref 62), some (.ref 5013), none], [], (iq_sh l, I, J, X)) r_ → iq_Gg 4 142 (21, [some (.ref 62), some (.ref 5013), none], [.int q1, .int z_0], (iq_sh l, I, J, X)) r_ := fun z_0 r_ hc_ hg_ => iq_G_pos (c := z_0 = q1) (σ1 := (26, [some (.ref 62), some (.ref 5013), none], [], (iq_sh l, I, J, X))) (fun _ => rfl) hc_ hg_
      refine st_ ((I 62 4) - (I 62 1)) _ hc_ ?_
      clear st_
      refine iq_G_go (k := 2) (σ' := (28, [some (.ref 62), some (.ref 5013), some (.int (0 : Int32))], [], (iq_sh l, I, J, X))) (fun _ => rfl) ?_
      obtain ⟨w4, hw4, h⟩ := iq_bnd h
      refine iq_G_fg (L := [some (.ref 62), some (.ref 5013), some (.int (0 : Int32))]) (And.intro rfl (And.intro rfl (And.intro rfl trivial))) ?_
      refine zT_isWord_62_5013_l28_ok l I J X hw4 _ ⟨fun a5 ha => ?_, fun b6 hb => ?_⟩
      · subst ha
        replace h := ir_smL h
        show iq_Gg 4 142 (63, [none, none, none], [], (iq_sh l, I, J, X)) _
        refine iq_G_go (k := 1) (σ' := (64, [none, none, none], [.int (1 : Int32)], (iq_sh l, I, J, X))) (fun _ => rfl) ?_
        cases h
        exact iq_G_ret (fun _ => rfl)
      · subst hb
        replace h := ir_smR h
        cases h
        rfl
    · have st_ : ∀ (z_0 : Int32) (r_ : iq_R × iq_M), ¬ (z_0 = q1) → iq_Gg 4 142 (24, [some (.ref 62), some (.ref 5013), none], [], (iq_sh l, I, J, X)) r_ → iq_Gg 4 142 (21, [some (.ref 62), some (.ref 5013), none], [.int q1, .int z_0], (iq_sh l, I, J, X)) r_ := fun z_0 r_ hc_ hg_ => iq_G_neg (c := z_0 = q1) (σ1 := (24, [some (.ref 62), some (.ref 5013), none], [], (iq_sh l, I, J, X))) (fun _ => rfl) hc_ hg_
      refine st_ ((I 62 4) - (I 62 1)) _ hc_ ?_
      clear st_
      refine iq_G_go (k := 1) (σ' := (25, [some (.ref 62), some (.ref 5013), none], [.int (0 : Int32)], (iq_sh l, I, J, X))) (fun _ => rfl) ?_
      cases h
      exact iq_G_ret (fun _ => rfl)
set_option maxRecDepth 100000 in
theorem zS_J0_coder_7d493_5014_ok (l : Nat)   (I : iq_I) (J : iq_J) (X : iq_X) {q : Int32} (h : zS_J0_coder_7d493_5014 I = some q) : iq_Cc 1 316 [.ref 5014] (iq_sh l, I, J, X) (.inl (some (.int q)), (iq_sh l, I, J, X)) := by
  refine iq_Cc_of (L := [some (.ref 5014)]) rfl rfl ?_
  unfold zS_J0_coder_7d493_5014 at h
  refine iq_G_go (k := 1) (σ' := (3, [some (.ref 5014)], [.int (1 : Int32)], (iq_sh l, I, J, X))) (fun _ => rfl) ?_
  refine iq_G_go (k := 1) (σ' := (6, [some (.ref 5014)], [], (iq_sh l, I, J, X))) (fun _ => rfl) ?_
  refine iq_G_go (k := 3) (σ' := (14, [some (.ref 5014)], [.int (0 : Int32)], (iq_sh l, I, J, X))) (fun _ => rfl) ?_
  cases h
  exact iq_G_ret (fun _ => rfl)
set_option maxRecDepth 100000 in
theorem zS_J0_length_8abf5_5014_ok (l : Nat)   (I : iq_I) (J : iq_J) (X : iq_X) {q : Int32} (h : zS_J0_length_8abf5_5014 I = some q) : iq_Cc 2 312 [.ref 5014] (iq_sh l, I, J, X) (.inl (some (.int q)), (iq_sh l, I, J, X)) := by
  refine iq_Cc_of (L := [some (.ref 5014)]) rfl rfl ?_
  unfold zS_J0_length_8abf5_5014 at h
  refine iq_G_go (k := 4) (σ' := (6, [some (.ref 5014)], [.ref 5014, .int (4 : Int32)], (iq_sh l, I, J, X))) (fun _ => rfl) ?_
  obtain ⟨q1, hq1, h⟩ := iq_bnd h
  refine iq_G_call (σ' := (9, [some (.ref 5014)], [.int q1, .int (4 : Int32)], (iq_sh l, I, J, X))) (fun _ => rfl) (zS_J0_coder_7d493_5014_ok l  I J X hq1) rfl rfl ?_
  refine iq_G_go (k := 1) (σ' := (10, [some (.ref 5014)], [.int ((4 : Int32) >>> (q1 &&& 31))], (iq_sh l, I, J, X))) (fun _ => rfl) ?_
  cases h
  exact iq_G_ret (fun _ => rfl)
set_option maxRecDepth 100000 in
theorem zS_J0_isLatin1_aae02_5014_ok (l : Nat)   (I : iq_I) (J : iq_J) (X : iq_X) {q : Int32} (h : zS_J0_isLatin1_aae02_5014 I = some q) : iq_Cc 1 317 [.ref 5014] (iq_sh l, I, J, X) (.inl (some (.int q)), (iq_sh l, I, J, X)) := by
  refine iq_Cc_of (L := [some (.ref 5014)]) rfl rfl ?_
  unfold zS_J0_isLatin1_aae02_5014 at h
  refine iq_G_go (k := 1) (σ' := (3, [some (.ref 5014)], [.int (1 : Int32)], (iq_sh l, I, J, X))) (fun _ => rfl) ?_
  refine iq_G_go (k := 1) (σ' := (6, [some (.ref 5014)], [], (iq_sh l, I, J, X))) (fun _ => rfl) ?_
  refine iq_G_go (k := 2) (σ' := (10, [some (.ref 5014)], [.int (0 : Int32)], (iq_sh l, I, J, X))) (fun _ => rfl) ?_
  refine iq_G_go (k := 1) (σ' := (13, [some (.ref 5014)], [], (iq_sh l, I, J, X))) (fun _ => rfl) ?_
  refine iq_G_go (k := 2) (σ' := (18, [some (.ref 5014)], [.int (1 : Int32)], (iq_sh l, I, J, X))) (fun _ => rfl) ?_
  cases h
  exact iq_G_ret (fun _ => rfl)
set_option maxRecDepth 100000 in
theorem zS_J1_charAt_3b067_6014_ok (l : Nat)  (x1 : Int32) (I : iq_I) (J : iq_J) (X : iq_X) {q : Int32} (h : zS_J1_charAt_3b067_6014 x1 I = some q) : iq_Cc 3 319 [.ref 6014, .int x1] (iq_sh l, I, J, X) (.inl (some (.int q)), (iq_sh l, I, J, X)) := by
  refine iq_Cc_of (L := [some (.ref 6014), some (.int x1)]) rfl rfl ?_
  unfold zS_J1_charAt_3b067_6014 at h
  refine iq_G_go (k := 3) (σ' := (3, [some (.ref 6014), some (.int x1)], [.int (4 : Int32), .int x1], (iq_sh l, I, J, X))) (fun _ => rfl) ?_
  obtain ⟨q1, hq1, h⟩ := iq_bnd h
  refine iq_G_call (σ' := (6, [some (.ref 6014), some (.int x1)], [], (iq_sh l, I, J, X))) (fun _ => rfl) (zS_J0_checkIndex_df160_ok l x1 (4 : Int32) I J X hq1) rfl rfl ?_
  refine iq_G_go (k := 2) (σ' := (8, [some (.ref 6014), some (.int x1)], [.int x1, .ref 6014], (iq_sh l, I, J, X))) (fun _ => rfl) ?_
  obtain ⟨hc_, h⟩ := iq_itn h
  refine iq_G_pos (c := iq_in x1 4) (σ1 := (9, [some (.ref 6014), some (.int x1)], [.int (ir_chr 14 (Int32.toNatClampNeg x1))], (iq_sh l, I, J, X))) (fun _ => rfl) hc_ ?_
  refine iq_G_go (k := 3) (σ' := (14, [some (.ref 6014), some (.int x1)], [.int ((Int32.toUInt32 ((ir_chr 14 (Int32.toNatClampNeg x1)) &&& (255 : Int32)) % 65536).toInt32)], (iq_sh l, I, J, X))) (fun _ => rfl) ?_
  obtain ⟨hc_, h⟩ := iq_itn h
  have h := Option.some.inj h
  subst h
  exact iq_G_rif (c := narrow .char (.int ((Int32.toUInt32 ((ir_chr 14 (Int32.toNatClampNeg x1)) &&& (255 : Int32)) % 65536).toInt32)) = .int ((Int32.toUInt32 ((ir_chr 14 (Int32.toNatClampNeg x1)) &&& (255 : Int32)) % 65536).toInt32)) (fun _ => rfl) hc_
set_option maxRecDepth 100000 in
theorem zS_J0_charAt_5068e_5014_ok (l : Nat)  (x1 : Int32) (I : iq_I) (J : iq_J) (X : iq_X) {q : Int32} (h : zS_J0_charAt_5068e_5014 x1 I = some q) : iq_Cc 4 313 [.ref 5014, .int x1] (iq_sh l, I, J, X) (.inl (some (.int q)), (iq_sh l, I, J, X)) := by
  refine iq_Cc_of (L := [some (.ref 5014), some (.int x1)]) rfl rfl ?_
  unfold zS_J0_charAt_5068e_5014 at h
  refine iq_G_go (k := 1) (σ' := (1, [some (.ref 5014), some (.int x1)], [.ref 5014], (iq_sh l, I, J, X))) (fun _ => rfl) ?_
  obtain ⟨q1, hq1, h⟩ := iq_bnd h
  refine iq_G_call (σ' := (4, [some (.ref 5014), some (.int x1)], [.int q1], (iq_sh l, I, J, X))) (fun _ => rfl) (zS_J0_isLatin1_aae02_5014_ok l  I J X hq1) rfl rfl ?_
  rcases iq_ite h with ⟨hc_, h⟩ | ⟨hc_, h⟩
  · refine iq_G_pos (c := q1 = 0) (σ1 := (16, [some (.ref 5014), some (.int x1)], [], (iq_sh l, I, J, X))) (fun _ => rfl) hc_ ?_
    cases h
  · refine iq_G_neg (c := q1 = 0) (σ1 := (7, [some (.ref 5014), some (.int x1)], [], (iq_sh l, I, J, X))) (fun _ => rfl) hc_ ?_
    refine iq_G_go (k := 3) (σ' := (12, [some (.ref 5014), some (.int x1)], [.int x1, .ref 6014], (iq_sh l, I, J, X))) (fun _ => rfl) ?_
    obtain ⟨q2, hq2, h⟩ := iq_bnd h
    refine iq_G_call (σ' := (15, [some (.ref 5014), some (.int x1)], [.int q2], (iq_sh l, I, J, X))) (fun _ => rfl) (zS_J1_charAt_3b067_6014_ok l x1 I J X hq2) rfl rfl ?_
    obtain ⟨hc_, h⟩ := iq_itn h
    have h := Option.some.inj h
    subst h
    exact iq_G_rif (c := narrow .char (.int q2) = .int q2) (fun _ => rfl) hc_
set_option maxRecDepth 100000 in
theorem zT_isWord_62_5014_l28_bok (l : Nat)   (I : iq_I) (J : iq_J) (X : iq_X) (x2 : Int32)  {q : (Int32) ⊕ ((Unit) ⊕ (Int32))} (h : zT_isWord_62_5014_l28_b I x2 = some q) (r : iq_R × iq_M) (hc : ∀ v, q = .inl v → iq_Gg 4 142 (28, [some (.ref 62), some (.ref 5014), some (.int v)], [], (iq_sh l, I, J, X)) r) (hx : ∀ w, q = .inr w → (∀ a, w = .inl a → iq_Gg 4 142 (63, [none, none, none], [], (iq_sh l, I, J, X)) r) ∧ (∀ b, w = .inr b → r = (.inl (some (.int b)), (iq_sh l, I, J, X)))) : iq_Gg 4 142 (28, [some (.ref 62), some (.ref 5014), some (.int x2)], [], (iq_sh l, I, J, X)) r := by
  unfold zT_isWord_62_5014_l28_b at h
  refine iq_G_go (k := 2) (σ' := (30, [some (.ref 62), some (.ref 5014), some (.int x2)], [.ref 5014, .int x2], (iq_sh l, I, J, X))) (fun _ => rfl) ?_
  obtain ⟨q2, hq2, h⟩ := iq_bnd h
  refine iq_G_call (σ' := (33, [some (.ref 62), some (.ref 5014), some (.int x2)], [.int q2, .int x2], (iq_sh l, I, J, X))) (fun _ => rfl) (zS_J0_length_8abf5_5014_ok l  I J X hq2) rfl rfl ?_
  rcases iq_ite h with ⟨hc_, h⟩ | ⟨hc_, h⟩
  · refine iq_G_pos (c := q2 ≤ x2) (σ1 := (63, [some (.ref 62), some (.ref 5014), some (.int x2)], [], (iq_sh l, I, J, X))) (fun _ => rfl) hc_ ?_
    cases h
    exact iq_G_fg (L := [none, none, none]) trivial ((hx (.inl ()) rfl).1 () rfl)
  · refine iq_G_neg (c := q2 ≤ x2) (σ1 := (36, [some (.ref 62), some (.ref 5014), some (.int x2)], [], (iq_sh l, I, J, X))) (fun _ => rfl) hc_ ?_
    refine iq_G_go (k := 6) (σ' := (46, [some (.ref 62), some (.ref 5014), some (.int x2)], [.int ((I 62 1) + x2), .ref 2], (iq_sh l, I, J, X))) (fun _ => rfl) ?_
    obtain ⟨hc_, h⟩ := iq_itn h
    refine iq_G_pos (c := iq_in ((I 62 1) + x2) 700) (σ1 := (47, [some (.ref 62), some (.ref 5014), some (.int x2)], [.int (I 2 (Int32.toNatClampNeg ((I 62 1) + x2)))], (iq_sh l, I, J, X))) (fun _ => rfl) hc_ ?_
    refine iq_G_go (k := 2) (σ' := (49, [some (.ref 62), some (.ref 5014), some (.int x2)], [.int x2, .ref 5014, .int (I 2 (Int32.toNatClampNeg ((I 62 1) + x2)))], (iq_sh l, I, J, X))) (fun _ => rfl) ?_
    obtain ⟨q3, hq3, h⟩ := iq_bnd h
    refine iq_G_call (σ' := (52, [some (.ref 62), some (.ref 5014), some (.int x2)], [.int q3, .int (I 2 (Int32.toNatClampNeg ((I 62 1) + x2)))], (iq_sh l, I, J, X))) (fun _ => rfl) (zS_J0_charAt_5068e_5014_ok l x2 I J X hq3) rfl rfl ?_
    rcases iq_ite h with ⟨hc_, h⟩ | ⟨hc_, h⟩
    · refine iq_G_pos (c := (I 2 (Int32.toNatClampNeg ((I 62 1) + x2))) = q3) (σ1 := (57, [some (.ref 62), some (.ref 5014), some (.int x2)], [], (iq_sh l, I, J, X))) (fun _ => rfl) hc_ ?_
      refine iq_G_go (k := 2) (σ' := (28, [some (.ref 62), some (.ref 5014), some (.int (x2 + (1 : Int32)))], [], (iq_sh l, I, J, X))) (fun _ => rfl) ?_
      cases h
      exact iq_G_fg (L := [some (.ref 62), some (.ref 5014), some (.int (x2 + (1 : Int32)))]) (And.intro rfl (And.intro rfl (And.intro rfl trivial))) (hc (x2 + (1 : Int32)) rfl)
    · refine iq_G_neg (c := (I 2 (Int32.toNatClampNeg ((I 62 1) + x2))) = q3) (σ1 := (55, [some (.ref 62), some (.ref 5014), some (.int x2)], [], (iq_sh l, I, J, X))) (fun _ => rfl) hc_ ?_
      refine iq_G_go (k := 1) (σ' := (56, [some (.ref 62), some (.ref 5014), some (.int x2)], [.int (0 : Int32)], (iq_sh l, I, J, X))) (fun _ => rfl) ?_
      cases h
      obtain rfl := (hx _ rfl).2 _ rfl
      exact iq_G_ret (fun _ => rfl)
set_option maxRecDepth 100000 in
theorem zT_isWord_62_5014_l28_ok (l : Nat)   (I : iq_I) (J : iq_J) (X : iq_X) {n : Nat} {v : Int32} {w : (Unit) ⊕ (Int32)} (h : zT_isWord_62_5014_l28 I n v = some w) (r : iq_R × iq_M) (hq : (∀ a, w = .inl a → iq_Gg 4 142 (63, [none, none, none], [], (iq_sh l, I, J, X)) r) ∧ (∀ b, w = .inr b → r = (.inl (some (.int b)), (iq_sh l, I, J, X)))) : iq_Gg 4 142 (28, [some (.ref 62), some (.ref 5014), some (.int v)], [], (iq_sh l, I, J, X)) r :=
  iq_lp_ok (σ := fun v => (28, [some (.ref 62), some (.ref 5014), some (.int v)], [], (iq_sh l, I, J, X))) (Q := fun w r => (∀ a, w = .inl a → iq_Gg 4 142 (63, [none, none, none], [], (iq_sh l, I, J, X)) r) ∧ (∀ b, w = .inr b → r = (.inl (some (.int b)), (iq_sh l, I, J, X)))) (fun v q hv r h1 h2 => zT_isWord_62_5014_l28_bok l I J X v hv r h1 h2) h r hq
set_option maxRecDepth 100000 in
theorem zT_isWord_62_5014_ok (l : Nat)   (I : iq_I) (J : iq_J) (X : iq_X) {q : Int32} (h : zT_isWord_62_5014 I = some q) : iq_Cc 5 142 [.ref 62, .ref 5014] (iq_sh l, I, J, X) (.inl (some (.int q)), (iq_sh l, I, J, X)) := by
  refine iq_Cc_of (L := [some (.ref 62), some (.ref 5014), none]) rfl rfl ?_
  unfold zT_isWord_62_5014 at h
  refine iq_G_go (k := 3) (σ' := (5, [some (.ref 62), some (.ref 5014), none], [.int (1 : Int32), .int (I 62 0)], (iq_sh l, I, J, X))) (fun _ => rfl) ?_
  rcases iq_ite h with ⟨hc_, h⟩ | ⟨hc_, h⟩
  · refine iq_G_pos (c := ¬ (I 62 0) = (1 : Int32)) (σ1 := (24, [some (.ref 62), some (.ref 5014), none], [], (iq_sh l, I, J, X))) (fun _ => rfl) hc_ ?_
    refine iq_G_go (k := 1) (σ' := (25, [some (.ref 62), some (.ref 5014), none], [.int (0 : Int32)], (iq_sh l, I, J, X))) (fun _ => rfl) ?_
    cases h
    exact iq_G_ret (fun _ => rfl)
  · refine iq_G_neg (c := ¬ (I 62 0) = (1 : Int32)) (σ1 := (8, [some (.ref 62), some (.ref 5014), none], [], (iq_sh l, I, J, X))) (fun _ => rfl) hc_ ?_
    refine iq_G_go (k := 6) (σ' := (18, [some (.ref 62), some (.ref 5014), none], [.ref 5014, .int ((I 62 4) - (I 62 1))], (iq_sh l, I, J, X))) (fun _ => rfl) ?_
    obtain ⟨q1, hq1, h⟩ := iq_bnd h
    refine iq_G_call (σ' := (21, [some (.ref 62), some (.ref 5014), none], [.int q1, .int ((I 62 4) - (I 62 1))], (iq_sh l, I, J, X))) (fun _ => rfl) (zS_J0_length_8abf5_5014_ok l  I J X hq1) rfl rfl ?_
    rcases iq_ite h with ⟨hc_, h⟩ | ⟨hc_, h⟩
    · have st_ : ∀ (z_0 : Int32) (r_ : iq_R × iq_M), z_0 = q1 → iq_Gg 4 142 (26, [some (.ref 62), some (.ref 5014), none], [], (iq_sh l, I, J, X)) r_ → iq_Gg 4 142 (21, [some (.ref 62), some (.ref 5014), none], [.int q1, .int z_0], (iq_sh l, I, J, X)) r_ := fun z_0 r_ hc_ hg_ => iq_G_pos (c := z_0 = q1) (σ1 := (26, [some (.ref 62), some (.ref 5014), none], [], (iq_sh l, I, J, X))) (fun _ => rfl) hc_ hg_
      refine st_ ((I 62 4) - (I 62 1)) _ hc_ ?_
      clear st_
      refine iq_G_go (k := 2) (σ' := (28, [some (.ref 62), some (.ref 5014), some (.int (0 : Int32))], [], (iq_sh l, I, J, X))) (fun _ => rfl) ?_
      obtain ⟨w4, hw4, h⟩ := iq_bnd h
      refine iq_G_fg (L := [some (.ref 62), some (.ref 5014), some (.int (0 : Int32))]) (And.intro rfl (And.intro rfl (And.intro rfl trivial))) ?_
      refine zT_isWord_62_5014_l28_ok l I J X hw4 _ ⟨fun a5 ha => ?_, fun b6 hb => ?_⟩
      · subst ha
        replace h := ir_smL h
        show iq_Gg 4 142 (63, [none, none, none], [], (iq_sh l, I, J, X)) _
        refine iq_G_go (k := 1) (σ' := (64, [none, none, none], [.int (1 : Int32)], (iq_sh l, I, J, X))) (fun _ => rfl) ?_
        cases h
        exact iq_G_ret (fun _ => rfl)
      · subst hb
        replace h := ir_smR h
        cases h
        rfl
    · have st_ : ∀ (z_0 : Int32) (r_ : iq_R × iq_M), ¬ (z_0 = q1) → iq_Gg 4 142 (24, [some (.ref 62), some (.ref 5014), none], [], (iq_sh l, I, J, X)) r_ → iq_Gg 4 142 (21, [some (.ref 62), some (.ref 5014), none], [.int q1, .int z_0], (iq_sh l, I, J, X)) r_ := fun z_0 r_ hc_ hg_ => iq_G_neg (c := z_0 = q1) (σ1 := (24, [some (.ref 62), some (.ref 5014), none], [], (iq_sh l, I, J, X))) (fun _ => rfl) hc_ hg_
      refine st_ ((I 62 4) - (I 62 1)) _ hc_ ?_
      clear st_
      refine iq_G_go (k := 1) (σ' := (25, [some (.ref 62), some (.ref 5014), none], [.int (0 : Int32)], (iq_sh l, I, J, X))) (fun _ => rfl) ?_
      cases h
      exact iq_G_ret (fun _ => rfl)
set_option maxRecDepth 100000 in
theorem zS_J0_coder_7d493_5015_ok (l : Nat)   (I : iq_I) (J : iq_J) (X : iq_X) {q : Int32} (h : zS_J0_coder_7d493_5015 I = some q) : iq_Cc 1 316 [.ref 5015] (iq_sh l, I, J, X) (.inl (some (.int q)), (iq_sh l, I, J, X)) := by
  refine iq_Cc_of (L := [some (.ref 5015)]) rfl rfl ?_
  unfold zS_J0_coder_7d493_5015 at h
  refine iq_G_go (k := 1) (σ' := (3, [some (.ref 5015)], [.int (1 : Int32)], (iq_sh l, I, J, X))) (fun _ => rfl) ?_
  refine iq_G_go (k := 1) (σ' := (6, [some (.ref 5015)], [], (iq_sh l, I, J, X))) (fun _ => rfl) ?_
  refine iq_G_go (k := 3) (σ' := (14, [some (.ref 5015)], [.int (0 : Int32)], (iq_sh l, I, J, X))) (fun _ => rfl) ?_
  cases h
  exact iq_G_ret (fun _ => rfl)
set_option maxRecDepth 100000 in
theorem zS_J0_length_8abf5_5015_ok (l : Nat)   (I : iq_I) (J : iq_J) (X : iq_X) {q : Int32} (h : zS_J0_length_8abf5_5015 I = some q) : iq_Cc 2 312 [.ref 5015] (iq_sh l, I, J, X) (.inl (some (.int q)), (iq_sh l, I, J, X)) := by
  refine iq_Cc_of (L := [some (.ref 5015)]) rfl rfl ?_
  unfold zS_J0_length_8abf5_5015 at h
  refine iq_G_go (k := 4) (σ' := (6, [some (.ref 5015)], [.ref 5015, .int (6 : Int32)], (iq_sh l, I, J, X))) (fun _ => rfl) ?_
  obtain ⟨q1, hq1, h⟩ := iq_bnd h
  refine iq_G_call (σ' := (9, [some (.ref 5015)], [.int q1, .int (6 : Int32)], (iq_sh l, I, J, X))) (fun _ => rfl) (zS_J0_coder_7d493_5015_ok l  I J X hq1) rfl rfl ?_
  refine iq_G_go (k := 1) (σ' := (10, [some (.ref 5015)], [.int ((6 : Int32) >>> (q1 &&& 31))], (iq_sh l, I, J, X))) (fun _ => rfl) ?_
  cases h
  exact iq_G_ret (fun _ => rfl)
set_option maxRecDepth 100000 in
theorem zS_J0_isLatin1_aae02_5015_ok (l : Nat)   (I : iq_I) (J : iq_J) (X : iq_X) {q : Int32} (h : zS_J0_isLatin1_aae02_5015 I = some q) : iq_Cc 1 317 [.ref 5015] (iq_sh l, I, J, X) (.inl (some (.int q)), (iq_sh l, I, J, X)) := by
  refine iq_Cc_of (L := [some (.ref 5015)]) rfl rfl ?_
  unfold zS_J0_isLatin1_aae02_5015 at h
  refine iq_G_go (k := 1) (σ' := (3, [some (.ref 5015)], [.int (1 : Int32)], (iq_sh l, I, J, X))) (fun _ => rfl) ?_
  refine iq_G_go (k := 1) (σ' := (6, [some (.ref 5015)], [], (iq_sh l, I, J, X))) (fun _ => rfl) ?_
  refine iq_G_go (k := 2) (σ' := (10, [some (.ref 5015)], [.int (0 : Int32)], (iq_sh l, I, J, X))) (fun _ => rfl) ?_
  refine iq_G_go (k := 1) (σ' := (13, [some (.ref 5015)], [], (iq_sh l, I, J, X))) (fun _ => rfl) ?_
  refine iq_G_go (k := 2) (σ' := (18, [some (.ref 5015)], [.int (1 : Int32)], (iq_sh l, I, J, X))) (fun _ => rfl) ?_
  cases h
  exact iq_G_ret (fun _ => rfl)
set_option maxRecDepth 100000 in
theorem zS_J1_charAt_3b067_6015_ok (l : Nat)  (x1 : Int32) (I : iq_I) (J : iq_J) (X : iq_X) {q : Int32} (h : zS_J1_charAt_3b067_6015 x1 I = some q) : iq_Cc 3 319 [.ref 6015, .int x1] (iq_sh l, I, J, X) (.inl (some (.int q)), (iq_sh l, I, J, X)) := by
  refine iq_Cc_of (L := [some (.ref 6015), some (.int x1)]) rfl rfl ?_
  unfold zS_J1_charAt_3b067_6015 at h
  refine iq_G_go (k := 3) (σ' := (3, [some (.ref 6015), some (.int x1)], [.int (6 : Int32), .int x1], (iq_sh l, I, J, X))) (fun _ => rfl) ?_
  obtain ⟨q1, hq1, h⟩ := iq_bnd h
  refine iq_G_call (σ' := (6, [some (.ref 6015), some (.int x1)], [], (iq_sh l, I, J, X))) (fun _ => rfl) (zS_J0_checkIndex_df160_ok l x1 (6 : Int32) I J X hq1) rfl rfl ?_
  refine iq_G_go (k := 2) (σ' := (8, [some (.ref 6015), some (.int x1)], [.int x1, .ref 6015], (iq_sh l, I, J, X))) (fun _ => rfl) ?_
  obtain ⟨hc_, h⟩ := iq_itn h
  refine iq_G_pos (c := iq_in x1 6) (σ1 := (9, [some (.ref 6015), some (.int x1)], [.int (ir_chr 15 (Int32.toNatClampNeg x1))], (iq_sh l, I, J, X))) (fun _ => rfl) hc_ ?_
  refine iq_G_go (k := 3) (σ' := (14, [some (.ref 6015), some (.int x1)], [.int ((Int32.toUInt32 ((ir_chr 15 (Int32.toNatClampNeg x1)) &&& (255 : Int32)) % 65536).toInt32)], (iq_sh l, I, J, X))) (fun _ => rfl) ?_
  obtain ⟨hc_, h⟩ := iq_itn h
  have h := Option.some.inj h
  subst h
  exact iq_G_rif (c := narrow .char (.int ((Int32.toUInt32 ((ir_chr 15 (Int32.toNatClampNeg x1)) &&& (255 : Int32)) % 65536).toInt32)) = .int ((Int32.toUInt32 ((ir_chr 15 (Int32.toNatClampNeg x1)) &&& (255 : Int32)) % 65536).toInt32)) (fun _ => rfl) hc_
set_option maxRecDepth 100000 in
theorem zS_J0_charAt_5068e_5015_ok (l : Nat)  (x1 : Int32) (I : iq_I) (J : iq_J) (X : iq_X) {q : Int32} (h : zS_J0_charAt_5068e_5015 x1 I = some q) : iq_Cc 4 313 [.ref 5015, .int x1] (iq_sh l, I, J, X) (.inl (some (.int q)), (iq_sh l, I, J, X)) := by
  refine iq_Cc_of (L := [some (.ref 5015), some (.int x1)]) rfl rfl ?_
  unfold zS_J0_charAt_5068e_5015 at h
  refine iq_G_go (k := 1) (σ' := (1, [some (.ref 5015), some (.int x1)], [.ref 5015], (iq_sh l, I, J, X))) (fun _ => rfl) ?_
  obtain ⟨q1, hq1, h⟩ := iq_bnd h
  refine iq_G_call (σ' := (4, [some (.ref 5015), some (.int x1)], [.int q1], (iq_sh l, I, J, X))) (fun _ => rfl) (zS_J0_isLatin1_aae02_5015_ok l  I J X hq1) rfl rfl ?_
  rcases iq_ite h with ⟨hc_, h⟩ | ⟨hc_, h⟩
  · refine iq_G_pos (c := q1 = 0) (σ1 := (16, [some (.ref 5015), some (.int x1)], [], (iq_sh l, I, J, X))) (fun _ => rfl) hc_ ?_
    cases h
  · refine iq_G_neg (c := q1 = 0) (σ1 := (7, [some (.ref 5015), some (.int x1)], [], (iq_sh l, I, J, X))) (fun _ => rfl) hc_ ?_
    refine iq_G_go (k := 3) (σ' := (12, [some (.ref 5015), some (.int x1)], [.int x1, .ref 6015], (iq_sh l, I, J, X))) (fun _ => rfl) ?_
    obtain ⟨q2, hq2, h⟩ := iq_bnd h
    refine iq_G_call (σ' := (15, [some (.ref 5015), some (.int x1)], [.int q2], (iq_sh l, I, J, X))) (fun _ => rfl) (zS_J1_charAt_3b067_6015_ok l x1 I J X hq2) rfl rfl ?_
    obtain ⟨hc_, h⟩ := iq_itn h
    have h := Option.some.inj h
    subst h
    exact iq_G_rif (c := narrow .char (.int q2) = .int q2) (fun _ => rfl) hc_
set_option maxRecDepth 100000 in
theorem zT_isWord_62_5015_l28_bok (l : Nat)   (I : iq_I) (J : iq_J) (X : iq_X) (x2 : Int32)  {q : (Int32) ⊕ ((Unit) ⊕ (Int32))} (h : zT_isWord_62_5015_l28_b I x2 = some q) (r : iq_R × iq_M) (hc : ∀ v, q = .inl v → iq_Gg 4 142 (28, [some (.ref 62), some (.ref 5015), some (.int v)], [], (iq_sh l, I, J, X)) r) (hx : ∀ w, q = .inr w → (∀ a, w = .inl a → iq_Gg 4 142 (63, [none, none, none], [], (iq_sh l, I, J, X)) r) ∧ (∀ b, w = .inr b → r = (.inl (some (.int b)), (iq_sh l, I, J, X)))) : iq_Gg 4 142 (28, [some (.ref 62), some (.ref 5015), some (.int x2)], [], (iq_sh l, I, J, X)) r := by
  unfold zT_isWord_62_5015_l28_b at h
  refine iq_G_go (k := 2) (σ' := (30, [some (.ref 62), some (.ref 5015), some (.int x2)], [.ref 5015, .int x2], (iq_sh l, I, J, X))) (fun _ => rfl) ?_
  obtain ⟨q2, hq2, h⟩ := iq_bnd h
  refine iq_G_call (σ' := (33, [some (.ref 62), some (.ref 5015), some (.int x2)], [.int q2, .int x2], (iq_sh l, I, J, X))) (fun _ => rfl) (zS_J0_length_8abf5_5015_ok l  I J X hq2) rfl rfl ?_
  rcases iq_ite h with ⟨hc_, h⟩ | ⟨hc_, h⟩
  · refine iq_G_pos (c := q2 ≤ x2) (σ1 := (63, [some (.ref 62), some (.ref 5015), some (.int x2)], [], (iq_sh l, I, J, X))) (fun _ => rfl) hc_ ?_
    cases h
    exact iq_G_fg (L := [none, none, none]) trivial ((hx (.inl ()) rfl).1 () rfl)
  · refine iq_G_neg (c := q2 ≤ x2) (σ1 := (36, [some (.ref 62), some (.ref 5015), some (.int x2)], [], (iq_sh l, I, J, X))) (fun _ => rfl) hc_ ?_
    refine iq_G_go (k := 6) (σ' := (46, [some (.ref 62), some (.ref 5015), some (.int x2)], [.int ((I 62 1) + x2), .ref 2], (iq_sh l, I, J, X))) (fun _ => rfl) ?_
    obtain ⟨hc_, h⟩ := iq_itn h
    refine iq_G_pos (c := iq_in ((I 62 1) + x2) 700) (σ1 := (47, [some (.ref 62), some (.ref 5015), some (.int x2)], [.int (I 2 (Int32.toNatClampNeg ((I 62 1) + x2)))], (iq_sh l, I, J, X))) (fun _ => rfl) hc_ ?_
    refine iq_G_go (k := 2) (σ' := (49, [some (.ref 62), some (.ref 5015), some (.int x2)], [.int x2, .ref 5015, .int (I 2 (Int32.toNatClampNeg ((I 62 1) + x2)))], (iq_sh l, I, J, X))) (fun _ => rfl) ?_
    obtain ⟨q3, hq3, h⟩ := iq_bnd h
    refine iq_G_call (σ' := (52, [some (.ref 62), some (.ref 5015), some (.int x2)], [.int q3, .int (I 2 (Int32.toNatClampNeg ((I 62 1) + x2)))], (iq_sh l, I, J, X))) (fun _ => rfl) (zS_J0_charAt_5068e_5015_ok l x2 I J X hq3) rfl rfl ?_
    rcases iq_ite h with ⟨hc_, h⟩ | ⟨hc_, h⟩
    · refine iq_G_pos (c := (I 2 (Int32.toNatClampNeg ((I 62 1) + x2))) = q3) (σ1 := (57, [some (.ref 62), some (.ref 5015), some (.int x2)], [], (iq_sh l, I, J, X))) (fun _ => rfl) hc_ ?_
      refine iq_G_go (k := 2) (σ' := (28, [some (.ref 62), some (.ref 5015), some (.int (x2 + (1 : Int32)))], [], (iq_sh l, I, J, X))) (fun _ => rfl) ?_
      cases h
      exact iq_G_fg (L := [some (.ref 62), some (.ref 5015), some (.int (x2 + (1 : Int32)))]) (And.intro rfl (And.intro rfl (And.intro rfl trivial))) (hc (x2 + (1 : Int32)) rfl)
    · refine iq_G_neg (c := (I 2 (Int32.toNatClampNeg ((I 62 1) + x2))) = q3) (σ1 := (55, [some (.ref 62), some (.ref 5015), some (.int x2)], [], (iq_sh l, I, J, X))) (fun _ => rfl) hc_ ?_
      refine iq_G_go (k := 1) (σ' := (56, [some (.ref 62), some (.ref 5015), some (.int x2)], [.int (0 : Int32)], (iq_sh l, I, J, X))) (fun _ => rfl) ?_
      cases h
      obtain rfl := (hx _ rfl).2 _ rfl
      exact iq_G_ret (fun _ => rfl)
set_option maxRecDepth 100000 in
theorem zT_isWord_62_5015_l28_ok (l : Nat)   (I : iq_I) (J : iq_J) (X : iq_X) {n : Nat} {v : Int32} {w : (Unit) ⊕ (Int32)} (h : zT_isWord_62_5015_l28 I n v = some w) (r : iq_R × iq_M) (hq : (∀ a, w = .inl a → iq_Gg 4 142 (63, [none, none, none], [], (iq_sh l, I, J, X)) r) ∧ (∀ b, w = .inr b → r = (.inl (some (.int b)), (iq_sh l, I, J, X)))) : iq_Gg 4 142 (28, [some (.ref 62), some (.ref 5015), some (.int v)], [], (iq_sh l, I, J, X)) r :=
  iq_lp_ok (σ := fun v => (28, [some (.ref 62), some (.ref 5015), some (.int v)], [], (iq_sh l, I, J, X))) (Q := fun w r => (∀ a, w = .inl a → iq_Gg 4 142 (63, [none, none, none], [], (iq_sh l, I, J, X)) r) ∧ (∀ b, w = .inr b → r = (.inl (some (.int b)), (iq_sh l, I, J, X)))) (fun v q hv r h1 h2 => zT_isWord_62_5015_l28_bok l I J X v hv r h1 h2) h r hq
set_option maxRecDepth 100000 in
theorem zT_isWord_62_5015_ok (l : Nat)   (I : iq_I) (J : iq_J) (X : iq_X) {q : Int32} (h : zT_isWord_62_5015 I = some q) : iq_Cc 5 142 [.ref 62, .ref 5015] (iq_sh l, I, J, X) (.inl (some (.int q)), (iq_sh l, I, J, X)) := by
  refine iq_Cc_of (L := [some (.ref 62), some (.ref 5015), none]) rfl rfl ?_
  unfold zT_isWord_62_5015 at h
  refine iq_G_go (k := 3) (σ' := (5, [some (.ref 62), some (.ref 5015), none], [.int (1 : Int32), .int (I 62 0)], (iq_sh l, I, J, X))) (fun _ => rfl) ?_
  rcases iq_ite h with ⟨hc_, h⟩ | ⟨hc_, h⟩
  · refine iq_G_pos (c := ¬ (I 62 0) = (1 : Int32)) (σ1 := (24, [some (.ref 62), some (.ref 5015), none], [], (iq_sh l, I, J, X))) (fun _ => rfl) hc_ ?_
    refine iq_G_go (k := 1) (σ' := (25, [some (.ref 62), some (.ref 5015), none], [.int (0 : Int32)], (iq_sh l, I, J, X))) (fun _ => rfl) ?_
    cases h
    exact iq_G_ret (fun _ => rfl)
  · refine iq_G_neg (c := ¬ (I 62 0) = (1 : Int32)) (σ1 := (8, [some (.ref 62), some (.ref 5015), none], [], (iq_sh l, I, J, X))) (fun _ => rfl) hc_ ?_
    refine iq_G_go (k := 6) (σ' := (18, [some (.ref 62), some (.ref 5015), none], [.ref 5015, .int ((I 62 4) - (I 62 1))], (iq_sh l, I, J, X))) (fun _ => rfl) ?_
    obtain ⟨q1, hq1, h⟩ := iq_bnd h
    refine iq_G_call (σ' := (21, [some (.ref 62), some (.ref 5015), none], [.int q1, .int ((I 62 4) - (I 62 1))], (iq_sh l, I, J, X))) (fun _ => rfl) (zS_J0_length_8abf5_5015_ok l  I J X hq1) rfl rfl ?_
    rcases iq_ite h with ⟨hc_, h⟩ | ⟨hc_, h⟩
    · have st_ : ∀ (z_0 : Int32) (r_ : iq_R × iq_M), z_0 = q1 → iq_Gg 4 142 (26, [some (.ref 62), some (.ref 5015), none], [], (iq_sh l, I, J, X)) r_ → iq_Gg 4 142 (21, [some (.ref 62), some (.ref 5015), none], [.int q1, .int z_0], (iq_sh l, I, J, X)) r_ := fun z_0 r_ hc_ hg_ => iq_G_pos (c := z_0 = q1) (σ1 := (26, [some (.ref 62), some (.ref 5015), none], [], (iq_sh l, I, J, X))) (fun _ => rfl) hc_ hg_
      refine st_ ((I 62 4) - (I 62 1)) _ hc_ ?_
      clear st_
      refine iq_G_go (k := 2) (σ' := (28, [some (.ref 62), some (.ref 5015), some (.int (0 : Int32))], [], (iq_sh l, I, J, X))) (fun _ => rfl) ?_
      obtain ⟨w4, hw4, h⟩ := iq_bnd h
      refine iq_G_fg (L := [some (.ref 62), some (.ref 5015), some (.int (0 : Int32))]) (And.intro rfl (And.intro rfl (And.intro rfl trivial))) ?_
      refine zT_isWord_62_5015_l28_ok l I J X hw4 _ ⟨fun a5 ha => ?_, fun b6 hb => ?_⟩
      · subst ha
        replace h := ir_smL h
        show iq_Gg 4 142 (63, [none, none, none], [], (iq_sh l, I, J, X)) _
        refine iq_G_go (k := 1) (σ' := (64, [none, none, none], [.int (1 : Int32)], (iq_sh l, I, J, X))) (fun _ => rfl) ?_
        cases h
        exact iq_G_ret (fun _ => rfl)
      · subst hb
        replace h := ir_smR h
        cases h
        rfl
    · have st_ : ∀ (z_0 : Int32) (r_ : iq_R × iq_M), ¬ (z_0 = q1) → iq_Gg 4 142 (24, [some (.ref 62), some (.ref 5015), none], [], (iq_sh l, I, J, X)) r_ → iq_Gg 4 142 (21, [some (.ref 62), some (.ref 5015), none], [.int q1, .int z_0], (iq_sh l, I, J, X)) r_ := fun z_0 r_ hc_ hg_ => iq_G_neg (c := z_0 = q1) (σ1 := (24, [some (.ref 62), some (.ref 5015), none], [], (iq_sh l, I, J, X))) (fun _ => rfl) hc_ hg_
      refine st_ ((I 62 4) - (I 62 1)) _ hc_ ?_
      clear st_
      refine iq_G_go (k := 1) (σ' := (25, [some (.ref 62), some (.ref 5015), none], [.int (0 : Int32)], (iq_sh l, I, J, X))) (fun _ => rfl) ?_
      cases h
      exact iq_G_ret (fun _ => rfl)
set_option maxRecDepth 100000 in
theorem zR_valueNamed_ok (l : Nat)   (I : iq_I) (J : iq_J) (X : iq_X) {q : Int32} (h : zR_valueNamed I = some q) : iq_Cc 6 106 [.ref 61] (iq_sh l, I, J, X) (.inl (some (.int q)), (iq_sh l, I, J, X)) := by
  refine iq_Cc_of (L := [some (.ref 61)]) rfl rfl ?_
  unfold zR_valueNamed at h
  refine iq_G_go (k := 3) (σ' := (6, [some (.ref 61)], [.ref 5010, .ref 62], (iq_sh l, I, J, X))) (fun _ => rfl) ?_
  obtain ⟨q1, hq1, h⟩ := iq_bnd h
  refine iq_G_call (σ' := (9, [some (.ref 61)], [.int q1], (iq_sh l, I, J, X))) (fun _ => rfl) (zT_isWord_62_5010_ok l  I J X hq1) rfl rfl ?_
  rcases iq_ite h with ⟨hc_, h⟩ | ⟨hc_, h⟩
  · refine iq_G_pos (c := q1 = 0) (σ1 := (14, [some (.ref 61)], [], (iq_sh l, I, J, X))) (fun _ => rfl) hc_ ?_
    refine iq_G_go (k := 3) (σ' := (20, [some (.ref 61)], [.ref 5011, .ref 62], (iq_sh l, I, J, X))) (fun _ => rfl) ?_
    obtain ⟨q2, hq2, h⟩ := iq_bnd h
    refine iq_G_call (σ' := (23, [some (.ref 61)], [.int q2], (iq_sh l, I, J, X))) (fun _ => rfl) (zT_isWord_62_5011_ok l  I J X hq2) rfl rfl ?_
    rcases iq_ite h with ⟨hc_, h⟩ | ⟨hc_, h⟩
    · refine iq_G_pos (c := q2 = 0) (σ1 := (28, [some (.ref 61)], [], (iq_sh l, I, J, X))) (fun _ => rfl) hc_ ?_
      refine iq_G_go (k := 3) (σ' := (34, [some (.ref 61)], [.ref 5004, .ref 62], (iq_sh l, I, J, X))) (fun _ => rfl) ?_
      obtain ⟨q3, hq3, h⟩ := iq_bnd h
      refine iq_G_call (σ' := (37, [some (.ref 61)], [.int q3], (iq_sh l, I, J, X))) (fun _ => rfl) (zT_isWord_62_5004_ok l  I J X hq3) rfl rfl ?_
      rcases iq_ite h with ⟨hc_, h⟩ | ⟨hc_, h⟩
      · refine iq_G_pos (c := q3 = 0) (σ1 := (42, [some (.ref 61)], [], (iq_sh l, I, J, X))) (fun _ => rfl) hc_ ?_
        refine iq_G_go (k := 3) (σ' := (48, [some (.ref 61)], [.ref 5012, .ref 62], (iq_sh l, I, J, X))) (fun _ => rfl) ?_
        obtain ⟨q4, hq4, h⟩ := iq_bnd h
        refine iq_G_call (σ' := (51, [some (.ref 61)], [.int q4], (iq_sh l, I, J, X))) (fun _ => rfl) (zT_isWord_62_5012_ok l  I J X hq4) rfl rfl ?_
        rcases iq_ite h with ⟨hc_, h⟩ | ⟨hc_, h⟩
        · refine iq_G_pos (c := q4 = 0) (σ1 := (56, [some (.ref 61)], [], (iq_sh l, I, J, X))) (fun _ => rfl) hc_ ?_
          refine iq_G_go (k := 3) (σ' := (63, [some (.ref 61)], [.ref 5013, .ref 62], (iq_sh l, I, J, X))) (fun _ => rfl) ?_
          obtain ⟨q5, hq5, h⟩ := iq_bnd h
          refine iq_G_call (σ' := (66, [some (.ref 61)], [.int q5], (iq_sh l, I, J, X))) (fun _ => rfl) (zT_isWord_62_5013_ok l  I J X hq5) rfl rfl ?_
          rcases iq_ite h with ⟨hc_, h⟩ | ⟨hc_, h⟩
          · refine iq_G_pos (c := q5 = 0) (σ1 := (71, [some (.ref 61)], [], (iq_sh l, I, J, X))) (fun _ => rfl) hc_ ?_
            refine iq_G_go (k := 3) (σ' := (78, [some (.ref 61)], [.ref 5014, .ref 62], (iq_sh l, I, J, X))) (fun _ => rfl) ?_
            obtain ⟨q6, hq6, h⟩ := iq_bnd h
            refine iq_G_call (σ' := (81, [some (.ref 61)], [.int q6], (iq_sh l, I, J, X))) (fun _ => rfl) (zT_isWord_62_5014_ok l  I J X hq6) rfl rfl ?_
            rcases iq_ite h with ⟨hc_, h⟩ | ⟨hc_, h⟩
            · refine iq_G_pos (c := q6 = 0) (σ1 := (86, [some (.ref 61)], [], (iq_sh l, I, J, X))) (fun _ => rfl) hc_ ?_
              refine iq_G_go (k := 3) (σ' := (93, [some (.ref 61)], [.ref 5015, .ref 62], (iq_sh l, I, J, X))) (fun _ => rfl) ?_
              obtain ⟨q7, hq7, h⟩ := iq_bnd h
              refine iq_G_call (σ' := (96, [some (.ref 61)], [.int q7], (iq_sh l, I, J, X))) (fun _ => rfl) (zT_isWord_62_5015_ok l  I J X hq7) rfl rfl ?_
              rcases iq_ite h with ⟨hc_, h⟩ | ⟨hc_, h⟩
              · refine iq_G_pos (c := q7 = 0) (σ1 := (104, [some (.ref 61)], [], (iq_sh l, I, J, X))) (fun _ => rfl) hc_ ?_
                refine iq_G_go (k := 1) (σ' := (105, [some (.ref 61)], [.int (-1 : Int32)], (iq_sh l, I, J, X))) (fun _ => rfl) ?_
                cases h
                exact iq_G_ret (fun _ => rfl)
              · refine iq_G_neg (c := q7 = 0) (σ1 := (99, [some (.ref 61)], [], (iq_sh l, I, J, X))) (fun _ => rfl) hc_ ?_
                refine iq_G_go (k := 2) (σ' := (105, [some (.ref 61)], [.int (6 : Int32)], (iq_sh l, I, J, X))) (fun _ => rfl) ?_
                cases h
                exact iq_G_ret (fun _ => rfl)
            · refine iq_G_neg (c := q6 = 0) (σ1 := (84, [some (.ref 61)], [], (iq_sh l, I, J, X))) (fun _ => rfl) hc_ ?_
              refine iq_G_go (k := 1) (σ' := (85, [some (.ref 61)], [.int (5 : Int32)], (iq_sh l, I, J, X))) (fun _ => rfl) ?_
              cases h
              exact iq_G_ret (fun _ => rfl)
          · refine iq_G_neg (c := q5 = 0) (σ1 := (69, [some (.ref 61)], [], (iq_sh l, I, J, X))) (fun _ => rfl) hc_ ?_
            refine iq_G_go (k := 1) (σ' := (70, [some (.ref 61)], [.int (4 : Int32)], (iq_sh l, I, J, X))) (fun _ => rfl) ?_
            cases h
            exact iq_G_ret (fun _ => rfl)
        · refine iq_G_neg (c := q4 = 0) (σ1 := (54, [some (.ref 61)], [], (iq_sh l, I, J, X))) (fun _ => rfl) hc_ ?_
          refine iq_G_go (k := 1) (σ' := (55, [some (.ref 61)], [.int (3 : Int32)], (iq_sh l, I, J, X))) (fun _ => rfl) ?_
          cases h
          exact iq_G_ret (fun _ => rfl)
      · refine iq_G_neg (c := q3 = 0) (σ1 := (40, [some (.ref 61)], [], (iq_sh l, I, J, X))) (fun _ => rfl) hc_ ?_
        refine iq_G_go (k := 1) (σ' := (41, [some (.ref 61)], [.int (2 : Int32)], (iq_sh l, I, J, X))) (fun _ => rfl) ?_
        cases h
        exact iq_G_ret (fun _ => rfl)
    · refine iq_G_neg (c := q2 = 0) (σ1 := (26, [some (.ref 61)], [], (iq_sh l, I, J, X))) (fun _ => rfl) hc_ ?_
      refine iq_G_go (k := 1) (σ' := (27, [some (.ref 61)], [.int (1 : Int32)], (iq_sh l, I, J, X))) (fun _ => rfl) ?_
      cases h
      exact iq_G_ret (fun _ => rfl)
  · refine iq_G_neg (c := q1 = 0) (σ1 := (12, [some (.ref 61)], [], (iq_sh l, I, J, X))) (fun _ => rfl) hc_ ?_
    refine iq_G_go (k := 1) (σ' := (13, [some (.ref 61)], [.int (0 : Int32)], (iq_sh l, I, J, X))) (fun _ => rfl) ?_
    cases h
    exact iq_G_ret (fun _ => rfl)
set_option maxRecDepth 100000 in
theorem zE_stepOfValue_ok (l : Nat)  (x0 : Int32) (I : iq_I) (J : iq_J) (X : iq_X) {q : Int32} (h : zE_stepOfValue x0 I = some q) : iq_Cc 1 133 [.int x0] (iq_sh l, I, J, X) (.inl (some (.int q)), (iq_sh l, I, J, X)) := by
  refine iq_Cc_of (L := [some (.int x0)]) rfl rfl ?_
  unfold zE_stepOfValue at h
  refine iq_G_go (k := 3) (σ' := (3, [some (.int x0)], [.int ((-1 : Int32) - x0)], (iq_sh l, I, J, X))) (fun _ => rfl) ?_
  have h := Option.some.inj h
  subst h
  exact iq_G_ret (fun _ => rfl)
set_option maxRecDepth 100000 in
theorem zE_step_ok (l : Nat)  (x1 : Int32) (I : iq_I) (J : iq_J) (X : iq_X) {q : iq_I} (h : zE_step x1 I = some q) : iq_Cc 1 132 [.ref 42, .int x1] (iq_sh l, I, J, X) (.inl none, (iq_sh l, q, J, X)) := by
  refine iq_Cc_of (L := [some (.ref 42), some (.int x1)]) rfl rfl ?_
  unfold zE_step at h
  refine iq_G_go (k := 5) (σ' := (9, [some (.ref 42), some (.int x1)], [.int (700 : Int32), .int (I 42 2)], (iq_sh l, I, J, X))) (fun _ => rfl) ?_
  rcases iq_ite h with ⟨hc_, h⟩ | ⟨hc_, h⟩
  · refine iq_G_pos (c := (700 : Int32) ≤ (I 42 2)) (σ1 := (32, [some (.ref 42), some (.int x1)], [], (iq_sh l, I, J, X))) (fun _ => rfl) hc_ ?_
    cases h
    exact iq_G_ret (fun _ => rfl)
  · refine iq_G_neg (c := (700 : Int32) ≤ (I 42 2)) (σ1 := (12, [some (.ref 42), some (.int x1)], [], (iq_sh l, I, J, X))) (fun _ => rfl) hc_ ?_
    refine iq_G_go (k := 5) (σ' := (21, [some (.ref 42), some (.int x1)], [.int x1, .int (I 42 2), .ref 43], (iq_sh l, I, J, X))) (fun _ => rfl) ?_
    obtain ⟨hc_, h⟩ := iq_itn h
    refine iq_G_pos (c := iq_in (I 42 2) 700) (σ1 := (22, [some (.ref 42), some (.int x1)], [], (iq_sh l, (iq_upI I 43 (Int32.toNatClampNeg (I 42 2)) x1), J, X))) (fun _ => rfl) hc_ ?_
    obtain ⟨I1, eI1, h⟩ := ir_letG h
    rw [← eI1]
    clear eI1
    refine iq_G_go (k := 5) (σ' := (29, [some (.ref 42), some (.int x1)], [.int ((I1 42 2) + (1 : Int32)), .ref 42], (iq_sh l, I1, J, X))) (fun _ => rfl) ?_
    refine iq_G_go (k := 1) (σ' := (32, [some (.ref 42), some (.int x1)], [], (iq_sh l, (iq_upI I1 42 2 ((I1 42 2) + (1 : Int32))), J, X))) (fun _ => rfl) ?_
    obtain ⟨I2, eI2, h⟩ := ir_letG h
    rw [← eI2]
    clear eI2
    cases h
    exact iq_G_ret (fun _ => rfl)
set_option maxRecDepth 100000 in
theorem zR_readPart_122_ok {D : Nat} (l : Nat) (R : Nat → Int32 → iq_I → Option (Int32 × iq_I))  (hR : ∀ (t : Nat) (x : Int32) (I : iq_I) (J : iq_J) (X : iq_X) (q : Int32 × iq_I), R t x I = some q → iq_Cc D t [.ref 61, .int x] (iq_sh l, I, J, X) (.inl (some (.int q.1)), (iq_sh l, q.2, J, X))) (hD : 6 ≤ D)  (I : iq_I) (J : iq_J) (X : iq_X)  {q : Int32 × iq_I} (h : zR_readPart_122 R I = some q)  : iq_Gg D 105 (122, [some (.ref 61), none, none], [], (iq_sh l, I, J, X)) (.inl (some (.int q.1)), (iq_sh l, q.2, J, X)) := by
  unfold zR_readPart_122 at h
  refine iq_G_go (k := 2) (σ' := (126, [some (.ref 61), none, none], [.ref 62], (iq_sh l, I, J, X))) (fun _ => rfl) ?_
  obtain ⟨q5, hq5, h⟩ := iq_bnd h
  refine iq_G_call (σ' := (129, [some (.ref 61), none, none], [], (iq_sh l, q5, J, X))) (fun _ => rfl) (zT_next_ok l  I J X hq5) (Nat.ble_eq_true_of_le (by omega)) rfl ?_
  refine iq_G_go (k := 1) (σ' := (130, [some (.ref 61), none, none], [.int (1 : Int32)], (iq_sh l, q5, J, X))) (fun _ => rfl) ?_
  cases h
  exact iq_G_ret (fun _ => rfl)
set_option maxRecDepth 100000 in
theorem zR_readPart_ok {D : Nat} (l : Nat) (R : Nat → Int32 → iq_I → Option (Int32 × iq_I))  (hR : ∀ (t : Nat) (x : Int32) (I : iq_I) (J : iq_J) (X : iq_X) (q : Int32 × iq_I), R t x I = some q → iq_Cc D t [.ref 61, .int x] (iq_sh l, I, J, X) (.inl (some (.int q.1)), (iq_sh l, q.2, J, X))) (hD : 6 ≤ D) (x1 : Int32) (I : iq_I) (J : iq_J) (X : iq_X) {q : Int32 × iq_I} (h : zR_readPart R x1 I = some q) : iq_Cc (D + 1) 105 [.ref 61, .int x1] (iq_sh l, I, J, X) (.inl (some (.int q.1)), (iq_sh l, q.2, J, X)) := by
  refine iq_Cc_of (L := [some (.ref 61), some (.int x1), none]) rfl rfl ?_
  unfold zR_readPart at h
  refine iq_G_go (k := 3) (σ' := (6, [some (.ref 61), some (.int x1), none], [.int (40 : Int32), .ref 62], (iq_sh l, I, J, X))) (fun _ => rfl) ?_
  obtain ⟨q1, hq1, h⟩ := iq_bnd h
  refine iq_G_call (σ' := (9, [some (.ref 61), some (.int x1), none], [.int q1], (iq_sh l, I, J, X))) (fun _ => rfl) (zT_isSign_ok l (40 : Int32) I J X hq1) (Nat.ble_eq_true_of_le (by omega)) rfl ?_
  rcases iq_ite h with ⟨hc_, h⟩ | ⟨hc_, h⟩
  · refine iq_G_pos (c := q1 = 0) (σ1 := (49, [some (.ref 61), some (.int x1), none], [], (iq_sh l, I, J, X))) (fun _ => rfl) hc_ ?_
    refine iq_G_go (k := 4) (σ' := (57, [some (.ref 61), some (.int x1), none], [.int (1 : Int32), .int (I 62 0)], (iq_sh l, I, J, X))) (fun _ => rfl) ?_
    rcases iq_ite h with ⟨hc_, h⟩ | ⟨hc_, h⟩
    · refine iq_G_pos (c := ¬ (I 62 0) = (1 : Int32)) (σ1 := (93, [some (.ref 61), some (.int x1), none], [], (iq_sh l, I, J, X))) (fun _ => rfl) hc_ ?_
      refine iq_G_go (k := 2) (σ' := (97, [some (.ref 61), some (.int x1), none], [.int (9999 : Int32), .ref 61], (iq_sh l, I, J, X))) (fun _ => rfl) ?_
      obtain ⟨q2, hq2, h⟩ := iq_bnd h
      refine iq_G_call (σ' := (100, [some (.ref 61), some (.int x1), none], [.int q2.1], (iq_sh l, q2.2, J, X))) (fun _ => rfl) (zR_isNumberTo_ok l (9999 : Int32) I J X hq2) (Nat.ble_eq_true_of_le (by omega)) rfl ?_
      rcases iq_ite h with ⟨hc_, h⟩ | ⟨hc_, h⟩
      · refine iq_G_pos (c := ¬ q2.1 = 0) (σ1 := (105, [some (.ref 61), some (.int x1), none], [], (iq_sh l, q2.2, J, X))) (fun _ => rfl) hc_ ?_
        refine iq_G_go (k := 5) (σ' := (116, [some (.ref 61), some (.int x1), none], [.ref 62, .ref 42], (iq_sh l, q2.2, J, X))) (fun _ => rfl) ?_
        obtain ⟨q3, hq3, h⟩ := iq_bnd h
        refine iq_G_call (σ' := (119, [some (.ref 61), some (.int x1), none], [.int q3, .ref 42], (iq_sh l, q2.2, J, X))) (fun _ => rfl) (zT_number_ok l  q2.2 J X hq3) (Nat.ble_eq_true_of_le (by omega)) rfl ?_
        obtain ⟨q4, hq4, h⟩ := iq_bnd h
        refine iq_G_call (σ' := (122, [some (.ref 61), some (.int x1), none], [], (iq_sh l, q4, J, X))) (fun _ => rfl) (zE_step_ok l q3 q2.2 J X hq4) (Nat.ble_eq_true_of_le (by omega)) rfl ?_
        exact iq_G_fg (L := [some (.ref 61), none, none]) (And.intro rfl trivial) (zR_readPart_122_ok l R hR hD q4 J X  h )
      · refine iq_G_neg (c := ¬ q2.1 = 0) (σ1 := (103, [some (.ref 61), some (.int x1), none], [], (iq_sh l, q2.2, J, X))) (fun _ => rfl) hc_ ?_
        refine iq_G_go (k := 1) (σ' := (104, [some (.ref 61), some (.int x1), none], [.int (0 : Int32)], (iq_sh l, q2.2, J, X))) (fun _ => rfl) ?_
        cases h
        exact iq_G_ret (fun _ => rfl)
    · refine iq_G_neg (c := ¬ (I 62 0) = (1 : Int32)) (σ1 := (60, [some (.ref 61), some (.int x1), none], [], (iq_sh l, I, J, X))) (fun _ => rfl) hc_ ?_
      refine iq_G_go (k := 1) (σ' := (61, [some (.ref 61), some (.int x1), none], [.ref 61], (iq_sh l, I, J, X))) (fun _ => rfl) ?_
      obtain ⟨q6, hq6, h⟩ := iq_bnd h
      refine iq_G_call (σ' := (64, [some (.ref 61), some (.int x1), none], [.int q6], (iq_sh l, I, J, X))) (fun _ => rfl) (zR_valueNamed_ok l  I J X hq6) (Nat.ble_eq_true_of_le (by omega)) rfl ?_
      refine iq_G_go (k := 3) (σ' := (67, [some (.ref 61), some (.int x1), some (.int q6)], [.int (-1 : Int32), .int q6], (iq_sh l, I, J, X))) (fun _ => rfl) ?_
      rcases iq_ite h with ⟨hc_, h⟩ | ⟨hc_, h⟩
      · refine iq_G_pos (c := ¬ q6 = (-1 : Int32)) (σ1 := (76, [some (.ref 61), some (.int x1), some (.int q6)], [], (iq_sh l, I, J, X))) (fun _ => rfl) hc_ ?_
        refine iq_G_go (k := 4) (σ' := (84, [some (.ref 61), some (.int x1), some (.int q6)], [.int q6, .ref 42], (iq_sh l, I, J, X))) (fun _ => rfl) ?_
        obtain ⟨q7, hq7, h⟩ := iq_bnd h
        refine iq_G_call (σ' := (87, [some (.ref 61), some (.int x1), some (.int q6)], [.int q7, .ref 42], (iq_sh l, I, J, X))) (fun _ => rfl) (zE_stepOfValue_ok l q6 I J X hq7) (Nat.ble_eq_true_of_le (by omega)) rfl ?_
        obtain ⟨q8, hq8, h⟩ := iq_bnd h
        refine iq_G_call (σ' := (90, [some (.ref 61), some (.int x1), some (.int q6)], [], (iq_sh l, q8, J, X))) (fun _ => rfl) (zE_step_ok l q7 I J X hq8) (Nat.ble_eq_true_of_le (by omega)) rfl ?_
        refine iq_G_go (k := 1) (σ' := (122, [some (.ref 61), some (.int x1), some (.int q6)], [], (iq_sh l, q8, J, X))) (fun _ => rfl) ?_
        exact iq_G_fg (L := [some (.ref 61), none, none]) (And.intro rfl trivial) (zR_readPart_122_ok l R hR hD q8 J X  h )
      · refine iq_G_neg (c := ¬ q6 = (-1 : Int32)) (σ1 := (70, [some (.ref 61), some (.int x1), some (.int q6)], [], (iq_sh l, I, J, X))) (fun _ => rfl) hc_ ?_
        refine iq_G_go (k := 2) (σ' := (72, [some (.ref 61), some (.int x1), some (.int q6)], [.int (3 : Int32), .ref 61], (iq_sh l, I, J, X))) (fun _ => rfl) ?_
        obtain ⟨q9, hq9, h⟩ := iq_bnd h
        refine iq_G_call (σ' := (75, [some (.ref 61), some (.int x1), some (.int q6)], [.int q9.1], (iq_sh l, q9.2, J, X))) (fun _ => rfl) (zR_refuse_ok l (3 : Int32) I J X hq9) (Nat.ble_eq_true_of_le (by omega)) rfl ?_
        obtain ⟨hc_, h⟩ := iq_itn h
        have h := Option.some.inj h
        subst h
        exact iq_G_rif (c := q9.1 = 0 ∨ q9.1 = 1) (fun _ => rfl) hc_
  · refine iq_G_neg (c := q1 = 0) (σ1 := (12, [some (.ref 61), some (.int x1), none], [], (iq_sh l, I, J, X))) (fun _ => rfl) hc_ ?_
    refine iq_G_go (k := 2) (σ' := (16, [some (.ref 61), some (.int x1), none], [.ref 62], (iq_sh l, I, J, X))) (fun _ => rfl) ?_
    obtain ⟨q10, hq10, h⟩ := iq_bnd h
    refine iq_G_call (σ' := (19, [some (.ref 61), some (.int x1), none], [], (iq_sh l, q10, J, X))) (fun _ => rfl) (zT_next_ok l  I J X hq10) (Nat.ble_eq_true_of_le (by omega)) rfl ?_
    refine iq_G_go (k := 4) (σ' := (23, [some (.ref 61), some (.int x1), none], [.int (x1 + (1 : Int32)), .ref 61], (iq_sh l, q10, J, X))) (fun _ => rfl) ?_
    obtain ⟨q11, hq11, h⟩ := iq_bnd h
    refine iq_G_call (σ' := (26, [some (.ref 61), some (.int x1), none], [.int q11.1], (iq_sh l, q11.2, J, X))) (fun _ => rfl) (hR 98 (x1 + (1 : Int32)) q10 J X q11 hq11) (Nat.ble_eq_true_of_le (Nat.le_refl _)) rfl ?_
    rcases iq_ite h with ⟨hc_, h⟩ | ⟨hc_, h⟩
    · refine iq_G_pos (c := ¬ q11.1 = 0) (σ1 := (31, [some (.ref 61), some (.int x1), none], [], (iq_sh l, q11.2, J, X))) (fun _ => rfl) hc_ ?_
      refine iq_G_go (k := 3) (σ' := (37, [some (.ref 61), some (.int x1), none], [.int (41 : Int32), .ref 62], (iq_sh l, q11.2, J, X))) (fun _ => rfl) ?_
      obtain ⟨q12, hq12, h⟩ := iq_bnd h
      refine iq_G_call (σ' := (40, [some (.ref 61), some (.int x1), none], [.int q12], (iq_sh l, q11.2, J, X))) (fun _ => rfl) (zT_isSign_ok l (41 : Int32) q11.2 J X hq12) (Nat.ble_eq_true_of_le (by omega)) rfl ?_
      rcases iq_ite h with ⟨hc_, h⟩ | ⟨hc_, h⟩
      · refine iq_G_pos (c := ¬ q12 = 0) (σ1 := (122, [some (.ref 61), some (.int x1), none], [], (iq_sh l, q11.2, J, X))) (fun _ => rfl) hc_ ?_
        exact iq_G_fg (L := [some (.ref 61), none, none]) (And.intro rfl trivial) (zR_readPart_122_ok l R hR hD q11.2 J X  h )
      · refine iq_G_neg (c := ¬ q12 = 0) (σ1 := (43, [some (.ref 61), some (.int x1), none], [], (iq_sh l, q11.2, J, X))) (fun _ => rfl) hc_ ?_
        refine iq_G_go (k := 2) (σ' := (45, [some (.ref 61), some (.int x1), none], [.int (1 : Int32), .ref 61], (iq_sh l, q11.2, J, X))) (fun _ => rfl) ?_
        obtain ⟨q13, hq13, h⟩ := iq_bnd h
        refine iq_G_call (σ' := (48, [some (.ref 61), some (.int x1), none], [.int q13.1], (iq_sh l, q13.2, J, X))) (fun _ => rfl) (zR_refuse_ok l (1 : Int32) q11.2 J X hq13) (Nat.ble_eq_true_of_le (by omega)) rfl ?_
        obtain ⟨hc_, h⟩ := iq_itn h
        have h := Option.some.inj h
        subst h
        exact iq_G_rif (c := q13.1 = 0 ∨ q13.1 = 1) (fun _ => rfl) hc_
    · refine iq_G_neg (c := ¬ q11.1 = 0) (σ1 := (29, [some (.ref 61), some (.int x1), none], [], (iq_sh l, q11.2, J, X))) (fun _ => rfl) hc_ ?_
      refine iq_G_go (k := 1) (σ' := (30, [some (.ref 61), some (.int x1), none], [.int (0 : Int32)], (iq_sh l, q11.2, J, X))) (fun _ => rfl) ?_
      cases h
      exact iq_G_ret (fun _ => rfl)
set_option maxRecDepth 100000 in
theorem zR_readProduct_82_ok {D : Nat} (l : Nat) (R : Nat → Int32 → iq_I → Option (Int32 × iq_I))  (hR : ∀ (t : Nat) (x : Int32) (I : iq_I) (J : iq_J) (X : iq_X) (q : Int32 × iq_I), R t x I = some q → iq_Cc D t [.ref 61, .int x] (iq_sh l, I, J, X) (.inl (some (.int q.1)), (iq_sh l, q.2, J, X))) (hD : 6 ≤ D) (x1 : Int32) (x2 : Int32) (s1 : Int32) (I : iq_I) (J : iq_J) (X : iq_X)  {q : (Int32 × iq_I) ⊕ ((iq_I) ⊕ (Int32 × iq_I))} (h : zR_readProduct_82 R x1 x2 s1 I = some q) (r : iq_R × iq_M) (hc : ∀ v, q = .inl v → iq_Gg D 104 (12, [some (.ref 61), some (.int x1), some (.int v.1), none], [], (iq_sh l, v.2, J, X)) r) (hx : ∀ w, q = .inr w → (∀ a, w = .inl a → iq_Gg D 104 (91, [none, none, none, none], [], (iq_sh l, a, J, X)) r) ∧ (∀ b, w = .inr b → r = (.inl (some (.int b.1)), (iq_sh l, b.2, J, X)))) : iq_Gg D 104 (82, [some (.ref 61), some (.int x1), some (.int x2), none], [.int s1, .ref 42], (iq_sh l, I, J, X)) r := by
  unfold zR_readProduct_82 at h
  obtain ⟨q5, hq5, h⟩ := iq_bnd h
  refine iq_G_call (σ' := (85, [some (.ref 61), some (.int x1), some (.int x2), none], [], (iq_sh l, q5, J, X))) (fun _ => rfl) (zE_step_ok l s1 I J X hq5) (Nat.ble_eq_true_of_le (by omega)) rfl ?_
  refine iq_G_go (k := 2) (σ' := (12, [some (.ref 61), some (.int x1), some (.int (x2 + (1 : Int32))), none], [], (iq_sh l, q5, J, X))) (fun _ => rfl) ?_
  cases h
  exact iq_G_fg (L := [some (.ref 61), some (.int x1), some (.int (x2 + (1 : Int32))), none]) (And.intro rfl (And.intro rfl (And.intro rfl trivial))) (hc ((x2 + (1 : Int32)), q5) rfl)
set_option maxRecDepth 100000 in
theorem zR_readProduct_47_ok {D : Nat} (l : Nat) (R : Nat → Int32 → iq_I → Option (Int32 × iq_I))  (hR : ∀ (t : Nat) (x : Int32) (I : iq_I) (J : iq_J) (X : iq_X) (q : Int32 × iq_I), R t x I = some q → iq_Cc D t [.ref 61, .int x] (iq_sh l, I, J, X) (.inl (some (.int q.1)), (iq_sh l, q.2, J, X))) (hD : 6 ≤ D) (x1 : Int32) (x2 : Int32) (x3 : Int32) (I : iq_I) (J : iq_J) (X : iq_X)  {q : (Int32 × iq_I) ⊕ ((iq_I) ⊕ (Int32 × iq_I))} (h : zR_readProduct_47 R x1 x2 x3 I = some q) (r : iq_R × iq_M) (hc : ∀ v, q = .inl v → iq_Gg D 104 (12, [some (.ref 61), some (.int x1), some (.int v.1), none], [], (iq_sh l, v.2, J, X)) r) (hx : ∀ w, q = .inr w → (∀ a, w = .inl a → iq_Gg D 104 (91, [none, none, none, none], [], (iq_sh l, a, J, X)) r) ∧ (∀ b, w = .inr b → r = (.inl (some (.int b.1)), (iq_sh l, b.2, J, X)))) : iq_Gg D 104 (47, [some (.ref 61), some (.int x1), some (.int x2), some (.int x3)], [], (iq_sh l, I, J, X)) r := by
  unfold zR_readProduct_47 at h
  refine iq_G_go (k := 2) (σ' := (51, [some (.ref 61), some (.int x1), some (.int x2), some (.int x3)], [.ref 62], (iq_sh l, I, J, X))) (fun _ => rfl) ?_
  obtain ⟨q3, hq3, h⟩ := iq_bnd h
  refine iq_G_call (σ' := (54, [some (.ref 61), some (.int x1), some (.int x2), some (.int x3)], [], (iq_sh l, q3, J, X))) (fun _ => rfl) (zT_next_ok l  I J X hq3) (Nat.ble_eq_true_of_le (by omega)) rfl ?_
  refine iq_G_go (k := 2) (σ' := (56, [some (.ref 61), some (.int x1), some (.int x2), some (.int x3)], [.int x1, .ref 61], (iq_sh l, q3, J, X))) (fun _ => rfl) ?_
  obtain ⟨q4, hq4, h⟩ := iq_bnd h
  refine iq_G_call (σ' := (59, [some (.ref 61), some (.int x1), some (.int x2), some (.int x3)], [.int q4.1], (iq_sh l, q4.2, J, X))) (fun _ => rfl) (hR 105 x1 q3 J X q4 hq4) (Nat.ble_eq_true_of_le (Nat.le_refl _)) rfl ?_
  rcases iq_ite h with ⟨hc_, h⟩ | ⟨hc_, h⟩
  · refine iq_G_pos (c := ¬ q4.1 = 0) (σ1 := (64, [some (.ref 61), some (.int x1), some (.int x2), some (.int x3)], [], (iq_sh l, q4.2, J, X))) (fun _ => rfl) hc_ ?_
    refine iq_G_go (k := 4) (σ' := (72, [some (.ref 61), some (.int x1), some (.int x2), some (.int x3)], [.int x3, .ref 42], (iq_sh l, q4.2, J, X))) (fun _ => rfl) ?_
    rcases iq_ite h with ⟨hc_, h⟩ | ⟨hc_, h⟩
    · refine iq_G_pos (c := x3 = 0) (σ1 := (80, [some (.ref 61), some (.int x1), some (.int x2), some (.int x3)], [.ref 42], (iq_sh l, q4.2, J, X))) (fun _ => rfl) hc_ ?_
      refine iq_G_go (k := 1) (σ' := (82, [some (.ref 61), some (.int x1), some (.int x2), some (.int x3)], [.int (-16 : Int32), .ref 42], (iq_sh l, q4.2, J, X))) (fun _ => rfl) ?_
      exact iq_G_fg (L := [some (.ref 61), some (.int x1), some (.int x2), none]) (And.intro rfl (And.intro rfl (And.intro rfl trivial))) (zR_readProduct_82_ok l R hR hD x1 x2 (-16 : Int32) q4.2 J X  h r hc hx)
    · refine iq_G_neg (c := x3 = 0) (σ1 := (75, [some (.ref 61), some (.int x1), some (.int x2), some (.int x3)], [.ref 42], (iq_sh l, q4.2, J, X))) (fun _ => rfl) hc_ ?_
      refine iq_G_go (k := 2) (σ' := (82, [some (.ref 61), some (.int x1), some (.int x2), some (.int x3)], [.int (-15 : Int32), .ref 42], (iq_sh l, q4.2, J, X))) (fun _ => rfl) ?_
      exact iq_G_fg (L := [some (.ref 61), some (.int x1), some (.int x2), none]) (And.intro rfl (And.intro rfl (And.intro rfl trivial))) (zR_readProduct_82_ok l R hR hD x1 x2 (-15 : Int32) q4.2 J X  h r hc hx)
  · refine iq_G_neg (c := ¬ q4.1 = 0) (σ1 := (62, [some (.ref 61), some (.int x1), some (.int x2), some (.int x3)], [], (iq_sh l, q4.2, J, X))) (fun _ => rfl) hc_ ?_
    refine iq_G_go (k := 1) (σ' := (63, [some (.ref 61), some (.int x1), some (.int x2), some (.int x3)], [.int (0 : Int32)], (iq_sh l, q4.2, J, X))) (fun _ => rfl) ?_
    cases h
    obtain rfl := (hx _ rfl).2 _ rfl
    exact iq_G_ret (fun _ => rfl)
set_option maxRecDepth 100000 in
theorem zR_readProduct_l12_bok {D : Nat} (l : Nat) (R : Nat → Int32 → iq_I → Option (Int32 × iq_I))  (hR : ∀ (t : Nat) (x : Int32) (I : iq_I) (J : iq_J) (X : iq_X) (q : Int32 × iq_I), R t x I = some q → iq_Cc D t [.ref 61, .int x] (iq_sh l, I, J, X) (.inl (some (.int q.1)), (iq_sh l, q.2, J, X))) (hD : 6 ≤ D) (x1 : Int32) (J : iq_J) (X : iq_X) (x2 : Int32) (I : iq_I) {q : (Int32 × iq_I) ⊕ ((iq_I) ⊕ (Int32 × iq_I))} (h : zR_readProduct_l12_b R x1 x2 I = some q) (r : iq_R × iq_M) (hc : ∀ v, q = .inl v → iq_Gg D 104 (12, [some (.ref 61), some (.int x1), some (.int v.1), none], [], (iq_sh l, v.2, J, X)) r) (hx : ∀ w, q = .inr w → (∀ a, w = .inl a → iq_Gg D 104 (91, [none, none, none, none], [], (iq_sh l, a, J, X)) r) ∧ (∀ b, w = .inr b → r = (.inl (some (.int b.1)), (iq_sh l, b.2, J, X)))) : iq_Gg D 104 (12, [some (.ref 61), some (.int x1), some (.int x2), none], [], (iq_sh l, I, J, X)) r := by
  unfold zR_readProduct_l12_b at h
  refine iq_G_go (k := 2) (σ' := (16, [some (.ref 61), some (.int x1), some (.int x2), none], [.int (700 : Int32), .int x2], (iq_sh l, I, J, X))) (fun _ => rfl) ?_
  rcases iq_ite h with ⟨hc_, h⟩ | ⟨hc_, h⟩
  · refine iq_G_pos (c := (700 : Int32) ≤ x2) (σ1 := (91, [some (.ref 61), some (.int x1), some (.int x2), none], [], (iq_sh l, I, J, X))) (fun _ => rfl) hc_ ?_
    cases h
    exact iq_G_fg (L := [none, none, none, none]) trivial ((hx (.inl I) rfl).1 I rfl)
  · refine iq_G_neg (c := (700 : Int32) ≤ x2) (σ1 := (19, [some (.ref 61), some (.int x1), some (.int x2), none], [], (iq_sh l, I, J, X))) (fun _ => rfl) hc_ ?_
    refine iq_G_go (k := 3) (σ' := (25, [some (.ref 61), some (.int x1), some (.int x2), none], [.int (42 : Int32), .ref 62], (iq_sh l, I, J, X))) (fun _ => rfl) ?_
    obtain ⟨q2, hq2, h⟩ := iq_bnd h
    refine iq_G_call (σ' := (28, [some (.ref 61), some (.int x1), some (.int x2), none], [.int q2], (iq_sh l, I, J, X))) (fun _ => rfl) (zT_isSign_ok l (42 : Int32) I J X hq2) (Nat.ble_eq_true_of_le (by omega)) rfl ?_
    refine iq_G_go (k := 2) (σ' := (30, [some (.ref 61), some (.int x1), some (.int x2), some (.int q2)], [.int q2], (iq_sh l, I, J, X))) (fun _ => rfl) ?_
    rcases iq_ite h with ⟨hc_, h⟩ | ⟨hc_, h⟩
    · refine iq_G_pos (c := ¬ q2 = 0) (σ1 := (47, [some (.ref 61), some (.int x1), some (.int x2), some (.int q2)], [], (iq_sh l, I, J, X))) (fun _ => rfl) hc_ ?_
      exact iq_G_fg (L := [some (.ref 61), some (.int x1), some (.int x2), some (.int q2)]) (And.intro rfl (And.intro rfl (And.intro rfl (And.intro rfl trivial)))) (zR_readProduct_47_ok l R hR hD x1 x2 q2 I J X  h r hc hx)
    · refine iq_G_neg (c := ¬ q2 = 0) (σ1 := (33, [some (.ref 61), some (.int x1), some (.int x2), some (.int q2)], [], (iq_sh l, I, J, X))) (fun _ => rfl) hc_ ?_
      refine iq_G_go (k := 3) (σ' := (39, [some (.ref 61), some (.int x1), some (.int x2), some (.int q2)], [.int (47 : Int32), .ref 62], (iq_sh l, I, J, X))) (fun _ => rfl) ?_
      obtain ⟨q6, hq6, h⟩ := iq_bnd h
      refine iq_G_call (σ' := (42, [some (.ref 61), some (.int x1), some (.int x2), some (.int q2)], [.int q6], (iq_sh l, I, J, X))) (fun _ => rfl) (zT_isSign_ok l (47 : Int32) I J X hq6) (Nat.ble_eq_true_of_le (by omega)) rfl ?_
      rcases iq_ite h with ⟨hc_, h⟩ | ⟨hc_, h⟩
      · refine iq_G_pos (c := ¬ q6 = 0) (σ1 := (47, [some (.ref 61), some (.int x1), some (.int x2), some (.int q2)], [], (iq_sh l, I, J, X))) (fun _ => rfl) hc_ ?_
        exact iq_G_fg (L := [some (.ref 61), some (.int x1), some (.int x2), some (.int q2)]) (And.intro rfl (And.intro rfl (And.intro rfl (And.intro rfl trivial)))) (zR_readProduct_47_ok l R hR hD x1 x2 q2 I J X  h r hc hx)
      · refine iq_G_neg (c := ¬ q6 = 0) (σ1 := (45, [some (.ref 61), some (.int x1), some (.int x2), some (.int q2)], [], (iq_sh l, I, J, X))) (fun _ => rfl) hc_ ?_
        refine iq_G_go (k := 1) (σ' := (46, [some (.ref 61), some (.int x1), some (.int x2), some (.int q2)], [.int (1 : Int32)], (iq_sh l, I, J, X))) (fun _ => rfl) ?_
        cases h
        obtain rfl := (hx _ rfl).2 _ rfl
        exact iq_G_ret (fun _ => rfl)
set_option maxRecDepth 100000 in
theorem zR_readProduct_l12_ok {D : Nat} (l : Nat) (R : Nat → Int32 → iq_I → Option (Int32 × iq_I))  (hR : ∀ (t : Nat) (x : Int32) (I : iq_I) (J : iq_J) (X : iq_X) (q : Int32 × iq_I), R t x I = some q → iq_Cc D t [.ref 61, .int x] (iq_sh l, I, J, X) (.inl (some (.int q.1)), (iq_sh l, q.2, J, X))) (hD : 6 ≤ D) (x1 : Int32) (J : iq_J) (X : iq_X) {n : Nat} {v : Int32 × iq_I} {w : (iq_I) ⊕ (Int32 × iq_I)} (h : zR_readProduct_l12 R x1 n v = some w) (r : iq_R × iq_M) (hq : (∀ a, w = .inl a → iq_Gg D 104 (91, [none, none, none, none], [], (iq_sh l, a, J, X)) r) ∧ (∀ b, w = .inr b → r = (.inl (some (.int b.1)), (iq_sh l, b.2, J, X)))) : iq_Gg D 104 (12, [some (.ref 61), some (.int x1), some (.int v.1), none], [], (iq_sh l, v.2, J, X)) r :=
  iq_lp_ok (σ := fun v => (12, [some (.ref 61), some (.int x1), some (.int v.1), none], [], (iq_sh l, v.2, J, X))) (Q := fun w r => (∀ a, w = .inl a → iq_Gg D 104 (91, [none, none, none, none], [], (iq_sh l, a, J, X)) r) ∧ (∀ b, w = .inr b → r = (.inl (some (.int b.1)), (iq_sh l, b.2, J, X)))) (fun v q hv r h1 h2 => zR_readProduct_l12_bok l R hR hD x1 J X v.1 v.2 hv r h1 h2) h r hq
set_option maxRecDepth 100000 in
theorem zR_readProduct_ok {D : Nat} (l : Nat) (R : Nat → Int32 → iq_I → Option (Int32 × iq_I))  (hR : ∀ (t : Nat) (x : Int32) (I : iq_I) (J : iq_J) (X : iq_X) (q : Int32 × iq_I), R t x I = some q → iq_Cc D t [.ref 61, .int x] (iq_sh l, I, J, X) (.inl (some (.int q.1)), (iq_sh l, q.2, J, X))) (hD : 6 ≤ D) (x1 : Int32) (I : iq_I) (J : iq_J) (X : iq_X) {q : Int32 × iq_I} (h : zR_readProduct R x1 I = some q) : iq_Cc (D + 1) 104 [.ref 61, .int x1] (iq_sh l, I, J, X) (.inl (some (.int q.1)), (iq_sh l, q.2, J, X)) := by
  refine iq_Cc_of (L := [some (.ref 61), some (.int x1), none, none]) rfl rfl ?_
  unfold zR_readProduct at h
  refine iq_G_go (k := 2) (σ' := (2, [some (.ref 61), some (.int x1), none, none], [.int x1, .ref 61], (iq_sh l, I, J, X))) (fun _ => rfl) ?_
  obtain ⟨q1, hq1, h⟩ := iq_bnd h
  refine iq_G_call (σ' := (5, [some (.ref 61), some (.int x1), none, none], [.int q1.1], (iq_sh l, q1.2, J, X))) (fun _ => rfl) (hR 105 x1 I J X q1 hq1) (Nat.ble_eq_true_of_le (Nat.le_refl _)) rfl ?_
  rcases iq_ite h with ⟨hc_, h⟩ | ⟨hc_, h⟩
  · refine iq_G_pos (c := ¬ q1.1 = 0) (σ1 := (10, [some (.ref 61), some (.int x1), none, none], [], (iq_sh l, q1.2, J, X))) (fun _ => rfl) hc_ ?_
    refine iq_G_go (k := 2) (σ' := (12, [some (.ref 61), some (.int x1), some (.int (0 : Int32)), none], [], (iq_sh l, q1.2, J, X))) (fun _ => rfl) ?_
    obtain ⟨w7, hw7, h⟩ := iq_bnd h
    refine iq_G_fg (L := [some (.ref 61), some (.int x1), some (.int (0 : Int32)), none]) (And.intro rfl (And.intro rfl (And.intro rfl trivial))) ?_
    refine zR_readProduct_l12_ok l R hR hD x1 J X hw7 _ ⟨fun a8 ha => ?_, fun b9 hb => ?_⟩
    · subst ha
      replace h := ir_smL h
      show iq_Gg D 104 (91, [none, none, none, none], [], (iq_sh l, a8, J, X)) _
      refine iq_G_go (k := 1) (σ' := (92, [none, none, none, none], [.int (1 : Int32)], (iq_sh l, a8, J, X))) (fun _ => rfl) ?_
      cases h
      exact iq_G_ret (fun _ => rfl)
    · subst hb
      replace h := ir_smR h
      cases h
      rfl
  · refine iq_G_neg (c := ¬ q1.1 = 0) (σ1 := (8, [some (.ref 61), some (.int x1), none, none], [], (iq_sh l, q1.2, J, X))) (fun _ => rfl) hc_ ?_
    refine iq_G_go (k := 1) (σ' := (9, [some (.ref 61), some (.int x1), none, none], [.int (0 : Int32)], (iq_sh l, q1.2, J, X))) (fun _ => rfl) ?_
    cases h
    exact iq_G_ret (fun _ => rfl)

