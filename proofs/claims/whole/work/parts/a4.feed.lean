/-! ===== feed ===== -/
theorem jt_255 {j : Nat} (h : j < 32) : jt 255 j = decide (j < 8) := by
  have : ∀ j : Fin 32, jt 255 j.val = decide (j.val < 8) := by decide
  exact this ⟨j, h⟩
theorem jt_shrj {x : Int32} {s j : Nat} (hs : s + j < 32) : jt (x >>> (jn s &&& 31)) j = jt x (s + j) := by
  unfold jt
  rw [show (x >>> (jn s &&& 31)).toBitVec = BitVec.sshiftRight' x.toBitVec ((jn s &&& 31).toBitVec.smod 32) from rfl, jt_sm' (by omega), BitVec.getLsbD_sshiftRight']
  have e : (BitVec.ofNat 32 s).toNat = s := by simp; omega
  rw [e]
  have h1 : ¬ 32 ≤ j := by omega
  simp [hs, h1]
theorem jt_us : ∀ s : Fin 32, ((jn s.val).toUInt32 &&& Int32.toUInt32 31).toNat % 32 = s.val := by decide
theorem jt_ushr {x : Int32} {s j : Nat} (hs : s + j < 32) : jt (ir_ushr x (jn s)) j = jt x (s + j) := by
  unfold jt ir_ushr
  have e := jt_us ⟨s, by omega⟩
  simp only at e
  rw [show (x.toUInt32 >>> ((jn s).toUInt32 &&& Int32.toUInt32 31)).toInt32.toBitVec = x.toBitVec >>> (((jn s).toUInt32 &&& Int32.toUInt32 31).toBitVec % 32) from rfl]
  rw [show x.toBitVec >>> (((jn s).toUInt32 &&& Int32.toUInt32 31).toBitVec % 32) = x.toBitVec >>> ((((jn s).toUInt32 &&& Int32.toUInt32 31).toBitVec % 32).toNat) from rfl, BitVec.getLsbD_ushiftRight]
  rw [show ((((jn s).toUInt32 &&& Int32.toUInt32 31).toBitVec % 32).toNat) = s from e]
/-- byte j of a number -/
def jby (x : Int32) (j : Nat) : Int32 := (x >>> (jn (24 - 8 * j) &&& 31)) &&& 255
theorem jby_u {x : Int32} {j : Nat} (hj : j < 4) : ir_ushr x (jn (24 - 8 * j)) &&& 255 = jby x j := jt_ext fun i hi => by
  unfold jby
  rw [jt_and, jt_and, jt_255 hi]
  by_cases h : i < 8
  · rw [jt_ushr (by omega), jt_shrj (by omega)]
  · simp [h]
theorem jby_b (x : Int32) (j : Nat) : ∃ b, b < 256 ∧ jby x j = jn b := by
  unfold jby
  generalize (x >>> (jn (24 - 8 * j) &&& 31)) = z
  refine ⟨(z &&& 255).toBitVec.toNat, ?_, ?_⟩
  · have : (z &&& 255).toBitVec.toNat = z.toBitVec.toNat &&& 255 := by
      rw [show (z &&& 255).toBitVec = z.toBitVec &&& 255#32 from rfl, BitVec.toNat_and]
      rfl
    rw [this]
    have := Nat.and_le_right (n := z.toBitVec.toNat) (m := 255)
    omega
  · apply Int32.toBitVec.inj
    unfold jn
    simp
theorem jc_tape {I : iq_I} {x : Int32} {T : Nat} (hT : T + 4 ≤ 700) (hI : I 1 11 = jn T) :
    ∃ K, zO_tapeNumber x I = some K ∧ K 1 11 = jn (T + 4) ∧ (∀ k j, ¬ k = 2 → ¬ (k = 1 ∧ j = 11) → K k j = I k j) ∧ (∀ j, j < T → K 2 j = I 2 j) ∧ (∀ j, j < 4 → K 2 (T + j) = jby x j) := by
  obtain ⟨K, e, h⟩ : ∃ K, zO_tapeNumber_l3 x ir_F ((24 : Int32), I) = some K ∧ (K 1 11 = jn (T + 4) ∧ (∀ k j, ¬ k = 2 → ¬ (k = 1 ∧ j = 11) → K k j = I k j) ∧ (∀ j, j < T → K 2 j = I 2 j) ∧ (∀ j, j < 4 → K 2 (T + j) = jby x j)) := by
    refine js_inv (fun t v => v.1 = (if t < 4 then jn (24 - 8 * t) else -8) ∧ v.2 1 11 = jn (T + t) ∧ (∀ k j, ¬ k = 2 → ¬ (k = 1 ∧ j = 11) → v.2 k j = I k j) ∧ (∀ j, j < T → v.2 2 j = I 2 j) ∧ (∀ j, j < t → v.2 2 (T + j) = jby x j)) 4 _ ?_ ?_ 4 0 ((24 : Int32), I) ir_F (by omega) ⟨rfl, hI, fun _ _ _ _ => rfl, fun _ _ => rfl, fun j h1 => by omega⟩ (by unfold ir_F; omega)
    · rintro t ⟨y, K⟩ ht ⟨h1, h2, h3, h4, h5⟩
      simp only at h1 h2 h3 h4 h5
      subst h1
      refine ⟨(if t + 1 < 4 then jn (24 - 8 * (t + 1)) else -8, iq_upI (iq_upI K 2 (T + t) (jby x t)) 1 11 (jn (T + t + 1))), ?_, rfl, rfl, fun k j q1 q2 => ?_, fun j hj => ?_, fun j hj => ?_⟩
      · dsimp only
        rw [if_pos ht]
        unfold zO_tapeNumber_l3_b
        rw [if_neg (by rw [jl0, jn_lt (by omega) (by omega)]; omega), h2, if_neg (by rw [jl700, jn_le (by omega) (by omega)]; omega), if_pos (by rw [jn_in (by omega)]; omega), jn_clamp (by omega), jby_u ht, ir_let, up_nk (by decide), h2, jl1, jn_add, ir_let]
        have q : t = 0 ∨ t = 1 ∨ t = 2 ∨ t = 3 := by omega
        rcases q with rfl | rfl | rfl | rfl <;> rfl
      · show iq_upI (iq_upI K 2 (T + t) (jby x t)) 1 11 (jn (T + t + 1)) k j = _
        by_cases e : k = 1
        · subst e; rw [up_ni (by omega), up_nk (by decide), h3 _ _ q1 q2]
        · rw [up_nk e, up_nk q1, h3 _ _ q1 q2]
      · show iq_upI (iq_upI K 2 (T + t) (jby x t)) 1 11 (jn (T + t + 1)) 2 j = _
        rw [up_nk (by decide), up_ni (by omega), h4 j hj]
      · show iq_upI (iq_upI K 2 (T + t) (jby x t)) 1 11 (jn (T + t + 1)) 2 _ = _
        rw [up_nk (by decide)]
        by_cases e : j = t
        · subst e; rw [up_eq]
        · rw [up_ni (by omega), h5 j (by omega)]
    · rintro ⟨y, K⟩ ⟨h1, h2, h3, h4, h5⟩
      simp only at h1 h2 h3 h4 h5
      subst h1
      exact ⟨K, rfl, h2, h3, h4, h5⟩
  exact ⟨K, by unfold zO_tapeNumber; rw [e, Option.bind_some], h⟩
theorem jm_lays {I : iq_I} {x : Int32} {T : Nat} (hT : T + 4 ≤ 700) (hI : I 76 17 = jn T) :
    ∃ K, zM_lays x I = some K ∧ K 76 17 = jn (T + 4) ∧ (∀ k j, ¬ k = 85 → ¬ (k = 76 ∧ j = 17) → K k j = I k j) ∧ (∀ j, j < T → K 85 j = I 85 j) ∧ (∀ j, j < 4 → K 85 (T + j) = jby x j) := by
  obtain ⟨K, e, h⟩ : ∃ K, zM_lays_l3 x ir_F ((24 : Int32), I) = some K ∧ (K 76 17 = jn (T + 4) ∧ (∀ k j, ¬ k = 85 → ¬ (k = 76 ∧ j = 17) → K k j = I k j) ∧ (∀ j, j < T → K 85 j = I 85 j) ∧ (∀ j, j < 4 → K 85 (T + j) = jby x j)) := by
    refine js_inv (fun t v => v.1 = (if t < 4 then jn (24 - 8 * t) else -8) ∧ v.2 76 17 = jn (T + t) ∧ (∀ k j, ¬ k = 85 → ¬ (k = 76 ∧ j = 17) → v.2 k j = I k j) ∧ (∀ j, j < T → v.2 85 j = I 85 j) ∧ (∀ j, j < t → v.2 85 (T + j) = jby x j)) 4 _ ?_ ?_ 4 0 ((24 : Int32), I) ir_F (by omega) ⟨rfl, hI, fun _ _ _ _ => rfl, fun _ _ => rfl, fun j h1 => by omega⟩ (by unfold ir_F; omega)
    · rintro t ⟨y, K⟩ ht ⟨h1, h2, h3, h4, h5⟩
      simp only at h1 h2 h3 h4 h5
      subst h1
      refine ⟨(if t + 1 < 4 then jn (24 - 8 * (t + 1)) else -8, iq_upI (iq_upI K 85 (T + t) (jby x t)) 76 17 (jn (T + t + 1))), ?_, rfl, rfl, fun k j q1 q2 => ?_, fun j hj => ?_, fun j hj => ?_⟩
      · dsimp only
        rw [if_pos ht]
        unfold zM_lays_l3_b
        rw [if_neg (by rw [jl0, jn_lt (by omega) (by omega)]; omega), h2, if_pos (by rw [jn_in (by omega)]; omega), jn_clamp (by omega), show (x >>> (jn (24 - 8 * t) &&& 31)) &&& (255 : Int32) = jby x t from rfl, ir_let, up_nk (by decide), h2, jl1, jn_add, ir_let]
        have q : t = 0 ∨ t = 1 ∨ t = 2 ∨ t = 3 := by omega
        rcases q with rfl | rfl | rfl | rfl <;> rfl
      · show iq_upI (iq_upI K 85 (T + t) (jby x t)) 76 17 (jn (T + t + 1)) k j = _
        by_cases e : k = 76
        · subst e; rw [up_ni (by omega), up_nk (by decide), h3 _ _ q1 q2]
        · rw [up_nk e, up_nk q1, h3 _ _ q1 q2]
      · show iq_upI (iq_upI K 85 (T + t) (jby x t)) 76 17 (jn (T + t + 1)) 85 j = _
        rw [up_nk (by decide), up_ni (by omega), h4 j hj]
      · show iq_upI (iq_upI K 85 (T + t) (jby x t)) 76 17 (jn (T + t + 1)) 85 _ = _
        rw [up_nk (by decide)]
        by_cases e : j = t
        · subst e; rw [up_eq]
        · rw [up_ni (by omega), h5 j (by omega)]
    · rintro ⟨y, K⟩ ⟨h1, h2, h3, h4, h5⟩
      simp only at h1 h2 h3 h4 h5
      subst h1
      exact ⟨K, rfl, h2, h3, h4, h5⟩
  exact ⟨K, by unfold zM_lays; rw [e, Option.bind_some], h⟩
/-- byte j of five numbers -/
def jb5 (a b c d e : Int32) (j : Nat) : Int32 := if j < 4 then jby a j else if j < 8 then jby b (j - 4) else if j < 12 then jby c (j - 8) else if j < 16 then jby d (j - 12) else jby e (j - 16)
theorem jb5_b {a b c d e : Int32} {j : Nat} : ∃ v, v < 256 ∧ jb5 a b c d e j = jn v := by
  unfold jb5
  split
  · exact jby_b _ _
  · split
    · exact jby_b _ _
    · split
      · exact jby_b _ _
      · split
        · exact jby_b _ _
        · exact jby_b _ _
theorem jb5_of {f I : Nat → Int32} {f1 f2 f3 f4 : Nat → Int32} {a b c d e : Int32} {T : Nat} (g1 : ∀ j, j < T → f1 j = I j) (h1 : ∀ j, j < 4 → f1 (T + j) = jby a j) (g2 : ∀ j, j < T + 4 → f2 j = f1 j) (h2 : ∀ j, j < 4 → f2 (T + 4 + j) = jby b j)
    (g3 : ∀ j, j < T + 4 + 4 → f3 j = f2 j) (h3 : ∀ j, j < 4 → f3 (T + 4 + 4 + j) = jby c j) (g4 : ∀ j, j < T + 4 + 4 + 4 → f4 j = f3 j) (h4 : ∀ j, j < 4 → f4 (T + 4 + 4 + 4 + j) = jby d j) (g5 : ∀ j, j < T + 4 + 4 + 4 + 4 → f j = f4 j) (h5 : ∀ j, j < 4 → f (T + 4 + 4 + 4 + 4 + j) = jby e j) :
    (∀ j, j < T → f j = I j) ∧ (∀ j, j < 20 → f (T + j) = jb5 a b c d e j) := by
  refine ⟨fun j hj => by rw [g5 j (by omega), g4 j (by omega), g3 j (by omega), g2 j (by omega), g1 j hj], fun j hj => ?_⟩
  unfold jb5
  by_cases q1 : j < 4
  · rw [if_pos q1, g5 _ (by omega), g4 _ (by omega), g3 _ (by omega), g2 _ (by omega), h1 j q1]
  · rw [if_neg q1]
    by_cases q2 : j < 8
    · rw [if_pos q2, g5 _ (by omega), g4 _ (by omega), g3 _ (by omega), show T + j = T + 4 + (j - 4) by omega, h2 _ (by omega)]
    · rw [if_neg q2]
      by_cases q3 : j < 12
      · rw [if_pos q3, g5 _ (by omega), g4 _ (by omega), show T + j = T + 4 + 4 + (j - 8) by omega, h3 _ (by omega)]
      · rw [if_neg q3]
        by_cases q4 : j < 16
        · rw [if_pos q4, g5 _ (by omega), show T + j = T + 4 + 4 + 4 + (j - 12) by omega, h4 _ (by omega)]
        · rw [if_neg q4, show T + j = T + 4 + 4 + 4 + 4 + (j - 16) by omega, h5 _ (by omega)]
theorem jq_feed {I : iq_I} (hI : jInv I) (a b c d e : Int32) : ∃ v I1 I2, zO_feed a b c d e I = some (v, I1) ∧ zM_feed a b c d e I1 = some (v, I2) ∧ jInv I2 ∧ ∀ j, I1 0 j = I 0 j := by
  obtain ⟨m, g, hm, hU, hN, hB, hM, hi, ⟨T, t1, t2, t3, t4⟩, hf, hr⟩ := jInv_iff.mp hI
  by_cases h : T + 20 ≤ 700
  · obtain ⟨K1, e1, a1, b1, c1, d1⟩ := jc_tape (I := I) (x := a) (by omega) t2
    obtain ⟨K2, e2, a2, b2, c2, d2⟩ := jc_tape (I := K1) (x := b) (by omega) a1
    obtain ⟨K3, e3, a3, b3, c3, d3⟩ := jc_tape (I := K2) (x := c) (by omega) a2
    obtain ⟨K4, e4, a4, b4, c4, d4⟩ := jc_tape (I := K3) (x := d) (by omega) a3
    obtain ⟨K5, e5, a5, b5, c5, d5⟩ := jc_tape (I := K4) (x := e) (by omega) a4
    have bC : ∀ k j, ¬ k = 2 → ¬ (k = 1 ∧ j = 11) → K5 k j = I k j := fun k j h1 h2 => by rw [b5 k j h1 h2, b4 k j h1 h2, b3 k j h1 h2, b2 k j h1 h2, b1 k j h1 h2]
    have vC := jb5_of (f := K5 2) c1 d1 c2 d2 c3 d3 c4 d4 c5 d5
    have z0 : jz K5 76 17 = jn T := by
      show K5 76 17 = _
      rw [bC _ _ (by decide) (by decide), t3]
    obtain ⟨L1, E1, A1, B1, C1, D1⟩ := jm_lays (I := jz K5) (x := a) (T := T) (by omega) z0
    obtain ⟨L2, E2, A2, B2, C2, D2⟩ := jm_lays (I := L1) (x := b) (by omega) A1
    obtain ⟨L3, E3, A3, B3, C3, D3⟩ := jm_lays (I := L2) (x := c) (by omega) A2
    obtain ⟨L4, E4, A4, B4, C4, D4⟩ := jm_lays (I := L3) (x := d) (by omega) A3
    obtain ⟨L5, E5, A5, B5, C5, D5⟩ := jm_lays (I := L4) (x := e) (by omega) A4
    have bM : ∀ k j, ¬ k = 85 → ¬ (k = 76 ∧ j = 17) → L5 k j = jz K5 k j := fun k j h1 h2 => by rw [B5 k j h1 h2, B4 k j h1 h2, B3 k j h1 h2, B2 k j h1 h2, B1 k j h1 h2]
    have vM := jb5_of (f := L5 85) C1 D1 C2 D2 C3 D3 C4 D4 C5 D5
    refine ⟨jn (T + 4 + 4 + 4 + 4 + 4), K5, L5, ?_, ?_, ?_, fun j => bC 0 j (by decide) (by omega)⟩
    · unfold zO_feed
      rw [t2, jl20, jn_add, if_pos (by rw [jl700, jn_le (by omega) (by omega)]; exact h), e1, Option.bind_some, e2, Option.bind_some, e3, Option.bind_some, e4, Option.bind_some, e5, Option.bind_some, a5]
    · unfold zM_feed
      rw [jzE, ir_let, z0, jl20, jn_add, if_pos (by rw [jl700, jn_le (by omega) (by omega)]; exact h), E1, Option.bind_some, E2, Option.bind_some, E3, Option.bind_some, E4, Option.bind_some, E5, Option.bind_some, A5]
    · have aa : jad [0, 6] I L5 := by
        refine jad_tr (I' := K5) (fun k j hk => ?_) (jad_tr (jad_ag (jz_ag K5) (by decide)) fun k j hk => ?_)
        · exact bC k j (fun e => by subst e; exact hk (show 6 ∈ [0, 6] by decide)) (fun e => by obtain ⟨e1, e2⟩ := e; subst e1; subst e2; exact hk (show 6 ∈ [0, 6] by decide))
        · exact bM k j (fun e => by subst e; exact hk (show 6 ∈ [0, 6] by decide)) (fun e => by obtain ⟨e1, e2⟩ := e; subst e1; subst e2; exact hk (show 6 ∈ [0, 6] by decide))
      refine jInv_iff.mpr ⟨m, g, hm, jRU_ad hU aa (by decide), jRN_ad hN aa (by decide), jRB_ad hB aa (by decide), jMn_ad hM aa (by decide), jIm_ad hi aa (by decide), ⟨T + 4 + 4 + 4 + 4 + 4, by omega, ?_, A5, fun i hi => ?_⟩, jFl_ad hf aa (by decide), jRf_ad hr aa (by decide)⟩
      · rw [bM _ _ (by decide) (by decide)]
        exact a5
      · rw [bM 2 i (by omega) (by omega), show jz K5 2 i = K5 2 i from rfl]
        by_cases q : i < T
        · rw [vM.1 i q, vC.1 i q, show jz K5 85 i = K5 85 i from rfl, bC _ _ (by omega) (by omega)]
          exact t4 i q
        · rw [show i = T + (i - T) by omega, vM.2 _ (by omega), vC.2 _ (by omega)]
          exact ⟨rfl, jb5_b⟩
  · refine ⟨-1, I, jz I, ?_, ?_, jInv_ag hI (jz_ag I), fun _ => rfl⟩
    · unfold zO_feed
      rw [t2, jl20, jn_add, if_neg (by rw [jl700, jn_le (by omega) (by omega)]; exact h)]
    · unfold zM_feed
      rw [jzE, ir_let, show jz I 76 17 = jn T from t3, jl20, jn_add, if_neg (by rw [jl700, jn_le (by omega) (by omega)]; exact h)]
