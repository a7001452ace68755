/-! ===== the reference's lexer ===== -/
def nv (f : Nat → Nat) (a : Nat) : Nat → Nat
  | 0 => 0
  | i + 1 => 10 * nv f a i + (f (a + i) - 48)
def cdw (f : Nat → Nat) (a : Nat) : Nat → Nat
  | 0 => 0
  | i + 1 => cdw f a i * 32 + (f (a + i) - 96)
theorem nv_lt {f : Nat → Nat} {a : Nat} : ∀ {i : Nat}, (∀ j, j < i → isDi (f (a + j)) = true) → nv f a i < 10 ^ i
  | 0, _ => by unfold nv; decide
  | i + 1, h => by
    have ih := nv_lt (f := f) (a := a) (i := i) fun j hj => h j (by omega)
    have d := h i (by omega)
    unfold isDi at d
    simp at d
    unfold nv
    rw [Nat.pow_succ]
    omega
theorem cdw_lt {f : Nat → Nat} {a : Nat} : ∀ {i : Nat}, (∀ j, j < i → isLe (f (a + j)) = true) → cdw f a i < 32 ^ i
  | 0, _ => by unfold cdw; decide
  | i + 1, h => by
    have ih := cdw_lt (f := f) (a := a) (i := i) fun j hj => h j (by omega)
    have d := h i (by omega)
    unfold isLe at d
    simp at d
    unfold cdw
    rw [Nat.pow_succ]
    omega
theorem jlg_sh {c d : Nat} (hc : c < 1099511627776) (hd : d < 32) : (jlg c <<< (Int32.toInt64 (5 : Int32) &&& 63)) ||| jlg d = jlg (c * 32 + d) := by
  apply Int64.toBitVec.inj
  apply BitVec.eq_of_toNat_eq
  have e5 : (jlg c <<< (Int32.toInt64 (5 : Int32) &&& 63)).toBitVec = (jlg c).toBitVec <<< (5 : Nat) := rfl
  have ec : (jlg c).toBitVec.toNat = c := by
    show (BitVec.ofNat 64 c).toNat = c
    rw [BitVec.toNat_ofNat]; omega
  have ed : (jlg d).toBitVec.toNat = d := by
    show (BitVec.ofNat 64 d).toNat = d
    rw [BitVec.toNat_ofNat]; omega
  have es : (jlg (c * 32 + d)).toBitVec.toNat = c * 32 + d := by
    show (BitVec.ofNat 64 (c * 32 + d)).toNat = c * 32 + d
    rw [BitVec.toNat_ofNat]; omega
  rw [show ((jlg c <<< (Int32.toInt64 (5 : Int32) &&& 63)) ||| jlg d).toBitVec = (jlg c <<< (Int32.toInt64 (5 : Int32) &&& 63)).toBitVec ||| (jlg d).toBitVec from rfl, e5, BitVec.toNat_or, BitVec.toNat_shiftLeft, ec, ed, es]
  have sh : c <<< 5 = c * 32 := by rw [Nat.shiftLeft_eq]
  rw [Nat.mod_eq_of_lt (by rw [sh]; omega), ← Nat.shiftLeft_add_eq_or_of_lt (i := 5) (by omega), sh]
/-- the reference's text and token -/
def ML (I : iq_I) (J : iq_J) (f : Nat → Nat) (n p : Nat) : Prop := jTx I 85 f n ∧ p ≤ n ∧ I 76 21 = jn n ∧ I 76 22 = jn (tz f n p) ∧ I 76 23 = jn (tt f n p) ∧ I 76 24 = jn (ta f n p) ∧ I 76 25 = jn (tz f n p - ta f n p) ∧
  (tt f n p = 2 → I 76 26 = jn (nv f (ta f n p) (min 4 (tz f n p - ta f n p)))) ∧ I 76 27 = (if ta f n p < n then jn (f (ta f n p)) else 0) ∧ (tt f n p = 1 → J 76 28 = jlg (cdw f (ta f n p) (min 7 (tz f n p - ta f n p))))
theorem jm_byteAt {I : iq_I} {f : Nat → Nat} {n i : Nat} (hT : jTx I 85 f n) (h1 : I 76 21 = jn n) (hi : i < 2147483648) : zM_byteAt (jn i) I = some (if i < n then jn (f i) else 0) := by
  obtain ⟨hn, hx⟩ := hT
  unfold zM_byteAt
  rw [h1]
  by_cases h : i < n
  · rw [if_neg (by rw [jn_le (by omega) (by omega)]; omega), if_pos (by rw [jn_in (by omega)]; omega), jn_clamp (by omega), (hx i h).2, if_pos h]
  · rw [if_pos (by rw [jn_le (by omega) (by omega)]; omega), if_neg h]
theorem jTx_f {I I' : iq_I} {c n : Nat} {f : Nat → Nat} (h : jTx I c f n) (e : ∀ j, I' c j = I c j) : jTx I' c f n := ⟨h.1, fun i hi => by rw [e]; exact h.2 i hi⟩
/-- the cells that the lexer writes -/
def jgo (I I' : iq_I) : Prop := ∀ k j, ¬ (k = 76 ∧ 22 ≤ j ∧ j ≤ 27) → I' k j = I k j
theorem jgo_tr {I I' I'' : iq_I} (h : jgo I I') (h' : jgo I' I'') : jgo I I'' := fun k j hk => (h' k j hk).trans (h k j hk)
theorem jgo_up {I I' : iq_I} (h : jgo I I') {j : Nat} {v : Int32} (hj : 22 ≤ j ∧ j ≤ 27) : jgo I (iq_upI I' 76 j v) := fun k i hk => by
  by_cases e : k = 76
  · subst e; rw [up_ni (by omega), h _ _ hk]
  · rw [up_nk e, h _ _ hk]
theorem jm_digits {I : iq_I} {J : iq_J} {f : Nat → Nat} {n a : Nat} (hT : jTx I 85 f n) (ha : a ≤ n) (h1 : I 76 21 = jn n) (h2 : I 76 22 = jn a) (h4 : I 76 24 = jn a) (h6 : I 76 26 = 0) :
    ∃ K, zM_goes_l187 J ir_F I = some K ∧ K 76 22 = jn (skp (fun i => isDi (f i)) (n - a) a) ∧ K 76 26 = jn (nv f a (min 4 (skp (fun i => isDi (f i)) (n - a) a - a))) ∧ (∀ k j, ¬ (k = 76 ∧ (j = 22 ∨ j = 26)) → K k j = I k j) := by
  have hn := hT.1
  obtain ⟨s1, s2, s3, s4⟩ := skp_sp (fun i => isDi (f i)) (n - a) a
  refine js_inv (fun i K => K 76 22 = jn (a + i) ∧ K 76 26 = jn (nv f a (min 4 i)) ∧ ∀ k j, ¬ (k = 76 ∧ (j = 22 ∨ j = 26)) → K k j = I k j) (skp (fun i => isDi (f i)) (n - a) a - a) _ ?_ ?_ (skp (fun i => isDi (f i)) (n - a) a - a) 0 I ir_F (by omega) ⟨h2, h6, fun _ _ _ => rfl⟩ (by unfold ir_F; omega)
  · rintro i K hi ⟨g1, g2, g3⟩
    have hd := s3 (a + i) (by omega) (by omega)
    have hd2 := hd
    unfold isDi at hd2
    simp at hd2
    have b := jm_byteAt (I := K) (i := a + i) (jTx_f hT fun j => g3 85 j (by omega)) (by rw [g3 _ _ (by decide), h1]) (by omega)
    rw [if_pos (by omega)] at b
    have k4 : K 76 24 = jn a := by rw [g3 _ _ (by decide), h4]
    have ad : jn (a + i) + (1 : Int32) = jn (a + (i + 1)) := jn_add _ 1
    unfold zM_goes_l187_b
    rw [g1, b, Option.bind_some, jm_isDigit (by omega), Option.bind_some, hd, if_neg (by decide), k4, jn_sub (by omega), show a + i - a = i by omega, ad]
    by_cases q : 4 ≤ i
    · refine ⟨iq_upI K 76 22 (jn (a + (i + 1))), ?_, up_eq, ?_, fun k j hk => ?_⟩
      · rw [if_pos (by rw [jl4, jn_le (by omega) (by omega)]; exact q), ir_let]
      · rw [up_ni (by decide), g2, Nat.min_eq_left (by omega), Nat.min_eq_left (by omega)]
      · by_cases e : k = 76
        · subst e; rw [up_ni (by omega), g3 _ _ hk]
        · rw [up_nk e, g3 _ _ hk]
    · refine ⟨iq_upI (iq_upI K 76 26 (jn (nv f a (i + 1)))) 76 22 (jn (a + (i + 1))), ?_, up_eq, ?_, fun k j hk => ?_⟩
      · have lt := nv_lt (f := f) (a := a) (i := i) fun j hj => s3 (a + j) (by omega) (by omega)
        have l4 : 10 ^ i ≤ 1000 := by
          rcases (show i = 0 ∨ i = 1 ∨ i = 2 ∨ i = 3 by omega) with rfl | rfl | rfl | rfl <;> decide
        rw [if_neg (by rw [jl4, jn_le (by omega) (by omega)]; exact q), Option.bind_some, g2, Nat.min_eq_right (by omega), jl10, jn_mul, jn_add, jl48, jn_sub (by omega), ir_let, up_ni (by decide), g1, ad, ir_let, show 10 * nv f a i + f (a + i) - 48 = nv f a (i + 1) by (show _ = 10 * nv f a i + (f (a + i) - 48); omega)]
      · rw [up_ni (by decide), up_eq, Nat.min_eq_right (by omega)]
      · by_cases e : k = 76
        · subst e; rw [up_ni (by omega), up_ni (by omega), g3 _ _ hk]
        · rw [up_nk e, up_nk e, g3 _ _ hk]
  · rintro K ⟨g1, g2, g3⟩
    rw [show a + (skp (fun i => isDi (f i)) (n - a) a - a) = skp (fun i => isDi (f i)) (n - a) a by omega] at g1
    refine ⟨K, ?_, g1, g2, g3⟩
    have b := jm_byteAt (I := K) (i := skp (fun i => isDi (f i)) (n - a) a) (jTx_f hT fun j => g3 85 j (by omega)) (by rw [g3 _ _ (by decide), h1]) (by omega)
    unfold zM_goes_l187_b
    rw [g1, b, Option.bind_some]
    by_cases q : skp (fun i => isDi (f i)) (n - a) a < n
    · have s4 := s4 (by omega)
      rw [if_pos q, jm_isDigit (hT.2 _ q).1, Option.bind_some, s4, if_pos (show jB false = 0 from rfl)]
    · rw [if_neg q, show (0 : Int32) = jn 0 from rfl, jm_isDigit (by omega), Option.bind_some, if_pos (by decide)]
theorem jm_wletters {I : iq_I} {J : iq_J} {f : Nat → Nat} {n a : Nat} (hT : jTx I 85 f n) (ha : a ≤ n) (h1 : I 76 21 = jn n) (h2 : I 76 22 = jn a) (h4 : I 76 24 = jn a) (h6 : J 76 28 = 0) :
    ∃ w, zM_goes_l108 ir_F (I, J) = some w ∧ w.1 76 22 = jn (skp (fun i => isLe (f i)) (n - a) a) ∧ w.2 76 28 = jlg (cdw f a (min 7 (skp (fun i => isLe (f i)) (n - a) a - a))) ∧ (∀ k j, ¬ (k = 76 ∧ j = 22) → w.1 k j = I k j) ∧ (∀ k j, ¬ k = 76 → w.2 k j = J k j) := by
  have hn := hT.1
  obtain ⟨s1, s2, s3, s4⟩ := skp_sp (fun i => isLe (f i)) (n - a) a
  refine js_inv (fun i w => w.1 76 22 = jn (a + i) ∧ w.2 76 28 = jlg (cdw f a (min 7 i)) ∧ (∀ k j, ¬ (k = 76 ∧ j = 22) → w.1 k j = I k j) ∧ (∀ k j, ¬ k = 76 → w.2 k j = J k j)) (skp (fun i => isLe (f i)) (n - a) a - a) _ ?_ ?_ (skp (fun i => isLe (f i)) (n - a) a - a) 0 (I, J) ir_F (by omega) ⟨h2, h6, fun _ _ _ => rfl, fun _ _ _ => rfl⟩ (by unfold ir_F; omega)
  · rintro i ⟨K, L⟩ hi ⟨g1, g2, g3, g4⟩
    simp only at g1 g2 g3 g4
    have hd := s3 (a + i) (by omega) (by omega)
    have hd2 := hd
    unfold isLe at hd2
    simp at hd2
    have b := jm_byteAt (I := K) (i := a + i) (jTx_f hT fun j => g3 85 j (by omega)) (by rw [g3 _ _ (by decide), h1]) (by omega)
    rw [if_pos (by omega)] at b
    have k4 : K 76 24 = jn a := by rw [g3 _ _ (by decide), h4]
    have ad : jn (a + i) + (1 : Int32) = jn (a + (i + 1)) := jn_add _ 1
    dsimp only
    unfold zM_goes_l108_b
    rw [g1, b, Option.bind_some, jm_isLetter (by omega), Option.bind_some, hd, if_neg (by decide), k4, jn_sub (by omega), show a + i - a = i by omega, ad]
    have fr : ∀ k j, ¬ (k = 76 ∧ j = 22) → iq_upI K 76 22 (jn (a + (i + 1))) k j = I k j := fun k j hk => by
      by_cases e : k = 76
      · subst e; rw [up_ni (by omega), g3 _ _ hk]
      · rw [up_nk e, g3 _ _ hk]
    by_cases q : 7 ≤ i
    · refine ⟨(iq_upI K 76 22 (jn (a + (i + 1))), L), ?_, rfl, ?_, fr, g4⟩
      · rw [if_pos (by rw [jl7, jn_le (by omega) (by omega)]; exact q), ir_let]
      · show L 76 28 = _
        rw [g2, Nat.min_eq_left (by omega), Nat.min_eq_left (by omega)]
    · refine ⟨(iq_upI K 76 22 (jn (a + (i + 1))), iq_upJ L 76 28 (jlg (cdw f a (i + 1)))), ?_, rfl, ?_, fr, fun k j hk => ?_⟩
      · have lt := cdw_lt (f := f) (a := a) (i := i) fun j hj => s3 (a + j) (by omega) (by omega)
        have l4 : 32 ^ i ≤ 1073741824 := by
          rcases (show i = 0 ∨ i = 1 ∨ i = 2 ∨ i = 3 ∨ i = 4 ∨ i = 5 ∨ i = 6 by omega) with rfl | rfl | rfl | rfl | rfl | rfl | rfl <;> decide
        rw [if_neg (by rw [jl7, jn_le (by omega) (by omega)]; exact q), Option.bind_some, g2, Nat.min_eq_right (by omega), jl96, jn_sub (by omega), jlg_of (by omega), jlg_sh (by omega) (by omega), ir_let, ir_let]
        rfl
      · rw [Nat.min_eq_right (by omega)]
        rfl
      · show iq_upJ L 76 28 _ k j = _
        rw [upJ_nk hk, g4 _ _ hk]
  · rintro ⟨K, L⟩ ⟨g1, g2, g3, g4⟩
    simp only at g1 g2 g3 g4
    rw [show a + (skp (fun i => isLe (f i)) (n - a) a - a) = skp (fun i => isLe (f i)) (n - a) a by omega] at g1
    refine ⟨(K, L), ?_, g1, g2, g3, g4⟩
    have b := jm_byteAt (I := K) (i := skp (fun i => isLe (f i)) (n - a) a) (jTx_f hT fun j => g3 85 j (by omega)) (by rw [g3 _ _ (by decide), h1]) (by omega)
    dsimp only
    unfold zM_goes_l108_b
    rw [g1, b, Option.bind_some]
    by_cases q : skp (fun i => isLe (f i)) (n - a) a < n
    · have s4 := s4 (by omega)
      rw [if_pos q, jm_isLetter (hT.2 _ q).1, Option.bind_some, s4, if_pos (show jB false = 0 from rfl)]
    · rw [if_neg q, show (0 : Int32) = jn 0 from rfl, jm_isLetter (by omega), Option.bind_some, if_pos (by decide)]
theorem jm_goes {I : iq_I} {J : iq_J} {f : Nat → Nat} {n p : Nat} (hT : jTx I 85 f n) (hp : p ≤ n) (h1 : I 76 21 = jn n) (h2 : I 76 22 = jn p) :
    ∃ I' J', zM_goes I J = some (I', J') ∧ ML I' J' f n p ∧ jgo I I' ∧ (∀ k j, ¬ k = 76 → J' k j = J k j) := by
  obtain ⟨hn, hx⟩ := id hT
  obtain ⟨a1, a2, a3, a4⟩ := ta_sp (f := f) hp
  obtain ⟨K, e1, k1, k2⟩ : ∃ K, zM_goes_l0 J ir_F I = some K ∧ K 76 22 = jn (ta f n p) ∧ (∀ k j, ¬ (k = 76 ∧ j = 22) → K k j = I k j) := by
    refine jskip (P := fun i => isBl (f i)) hn hp h2 (fun K i g1 g2 g3 g4 => ?_) (fun K g1 g2 => ?_)
    · have q1 := (hx i g2).1
      have t1 : K 76 21 = jn n := by rw [g4 _ _ (by decide), h1]
      have b := jm_byteAt (I := K) (i := i) (jTx_f hT fun j => g4 85 j (by omega)) t1 (by omega)
      rw [if_pos g2] at b
      unfold zM_goes_l0_b
      rw [t1, g3, if_neg (by rw [jn_le (by omega) (by omega)]; omega), b, Option.bind_some, Option.bind_some, show jn i + (1 : Int32) = jn (i + 1) from jn_add i 1, ir_let]
      unfold isBl
      by_cases c1 : f i = 32
      · rw [if_pos (by rw [c1]; rfl), decide_eq_true c1, Bool.true_or, if_pos rfl]
      · rw [if_neg (by rw [jl32, jn_inj (by omega) (by omega)]; exact c1), decide_eq_false c1, Bool.false_or]
        by_cases c2 : f i = 10
        · rw [if_neg (by rw [c2]; exact fun h => h rfl), if_pos (decide_eq_true c2)]
        · rw [if_pos (by rw [jl10, jn_inj (by omega) (by omega)]; exact c2), if_neg (by rw [decide_eq_false c2]; decide)]
    · have t1 : K 76 21 = jn n := by rw [g2 _ _ (by decide), h1]
      unfold zM_goes_l0_b
      rw [t1, g1, if_pos (by rw [jn_le (by omega) (by omega)]; omega)]
  have kg : jgo I K := fun k j hk => k2 k j (by omega)
  have K1 : K 76 21 = jn n := by rw [k2 _ _ (by decide), h1]
  -- the four fields that goes_50 fills first
  have fill : ∀ b : Int32, ∃ M, iq_upI (iq_upI (iq_upI K 76 24 (jn (ta f n p))) 76 26 0) 76 27 b = M ∧ jgo I M ∧ M 76 21 = jn n ∧ M 76 22 = jn (ta f n p) ∧ M 76 24 = jn (ta f n p) ∧ M 76 26 = 0 ∧ M 76 27 = b := fun b => by
    refine ⟨_, rfl, jgo_up (jgo_up (jgo_up kg (by omega)) (by omega)) (by omega), ?_, ?_, ?_, ?_, up_eq⟩
    · rw [up_ni (by decide), up_ni (by decide), up_ni (by decide), K1]
    · rw [up_ni (by decide), up_ni (by decide), up_ni (by decide), k1]
    · rw [up_ni (by decide), up_ni (by decide), up_eq]
    · rw [up_ni (by decide), up_eq]
  obtain ⟨M, eM, m0, m1, m2, m4, m6, m7⟩ := fill (if ta f n p < n then jn (f (ta f n p)) else 0)
  have bK := jm_byteAt (I := iq_upI (iq_upI K 76 24 (jn (ta f n p))) 76 26 0) (i := ta f n p) (jTx_f hT fun j => by rw [up_nk (by decide), up_nk (by decide), k2 _ _ (by omega)]) (by rw [up_ni (by decide), up_ni (by decide), K1]) (by omega)
  have i22 : iq_upI (iq_upI K 76 24 (jn (ta f n p))) 76 26 0 76 22 = jn (ta f n p) := by rw [up_ni (by decide), up_ni (by decide), k1]
  have jJ : ∀ k j, ¬ k = 76 → iq_upJ J 76 28 0 k j = J k j := fun k j hk => upJ_nk hk
  -- how it ends, whatever the token is
  have fin : ∀ (N : iq_I) (L : iq_J) (ty : Nat), (∀ k j, ¬ (k = 76 ∧ (j = 22 ∨ j = 26)) → N k j = M k j) → N 76 22 = jn (tz f n p) → ty = tt f n p → (tt f n p = 2 → N 76 26 = jn (nv f (ta f n p) (min 4 (tz f n p - ta f n p)))) → (tt f n p = 1 → L 76 28 = jlg (cdw f (ta f n p) (min 7 (tz f n p - ta f n p)))) → (∀ k j, ¬ k = 76 → L k j = J k j) →
      ∃ I' J', some (iq_upI (iq_upI N 76 23 (jn ty)) 76 25 (iq_upI N 76 23 (jn ty) 76 22 - iq_upI N 76 23 (jn ty) 76 24), L) = some (I', J') ∧ ML I' J' f n p ∧ jgo I I' ∧ (∀ k j, ¬ k = 76 → J' k j = J k j) := fun N L ty g1 g2 g3 g4 g5 g6 => by
    have tz1 := (tz_sp (f := f) hp).1
    have gN : jgo I N := fun k j hk => by rw [g1 k j (by omega), m0 k j hk]
    have dif : iq_upI N 76 23 (jn ty) 76 22 - iq_upI N 76 23 (jn ty) 76 24 = jn (tz f n p - ta f n p) := by
      rw [up_ni (by decide), up_ni (by decide), g2, g1 76 24 (by decide), m4, jn_sub tz1]
    refine ⟨_, _, rfl, ⟨jTx_f hT fun j => by rw [up_nk (by decide), up_nk (by decide), gN _ _ (by omega)], hp, ?_, ?_, ?_, ?_, ?_, fun h => ?_, ?_, g5⟩, jgo_up (jgo_up gN (by omega)) (by omega), g6⟩
    · rw [up_ni (by decide), up_ni (by decide), g1 _ _ (by decide), m1]
    · rw [up_ni (by decide), up_ni (by decide), g2]
    · rw [up_ni (by decide), up_eq, g3]
    · rw [up_ni (by decide), up_ni (by decide), g1 _ _ (by decide), m4]
    · rw [up_eq, dif]
    · rw [up_ni (by decide), up_ni (by decide), g4 h]
    · rw [up_ni (by decide), up_ni (by decide), g1 _ _ (by decide), m7]
  unfold zM_goes
  rw [e1, Option.bind_some]
  unfold zM_goes_50
  rw [k1, ir_let, ir_let, ir_let, i22, bK, Option.bind_some, eM, ir_let, m2, m1]
  by_cases a : ta f n p < n
  · have q1 := (hx _ a).1
    rw [if_pos (show jn (ta f n p) < jn n by rw [jn_lt (by omega) (by omega)]; exact a)]
    simp only [if_pos a]
    rw [jm_isLetter q1, Option.bind_some, jm_isDigit q1, Option.bind_some]
    cases l : isLe (f (ta f n p)) with
    | true =>
      obtain ⟨⟨N, L⟩, e2, n1, n2, n3, n4⟩ := jm_wletters (I := M) (J := iq_upJ J 76 28 0) (jTx_f hT fun j => m0 85 j (by omega)) a2 m1 m2 m4 upJ_eq
      simp only at n1 n2 n3 n4
      have ez : tz f n p = skp (fun i => isLe (f i)) (n - ta f n p) (ta f n p) := by unfold tz; rw [if_pos a, if_pos l]
      have et : tt f n p = 1 := by unfold tt; rw [if_pos a, if_pos l]
      rw [if_neg (by decide), e2, Option.bind_some]
      dsimp only
      rw [ir_let, ir_let]
      exact fin N L 1 (fun k j hk => n3 k j (by omega)) (by rw [n1, ez]) et.symm (fun h => by rw [et] at h; cases h) (fun _ => by rw [n2, ez]) (fun k j hk => by rw [n4 k j hk, jJ k j hk])
    | false =>
      have l' : ¬ isLe (f (ta f n p)) = true := by rw [l]; decide
      rw [if_pos (by decide)]
      cases d : isDi (f (ta f n p)) with
      | true =>
        obtain ⟨N, e2, n1, n2, n3⟩ := jm_digits (I := M) (J := iq_upJ J 76 28 0) (jTx_f hT fun j => m0 85 j (by omega)) a2 m1 m2 m4 m6
        have ez : tz f n p = skp (fun i => isDi (f i)) (n - ta f n p) (ta f n p) := by unfold tz; rw [if_pos a, if_neg l', if_pos d]
        have et : tt f n p = 2 := by unfold tt; rw [if_pos a, if_neg l', if_pos d]
        rw [if_neg (by decide), e2, Option.bind_some, ir_let, ir_let]
        exact fin N _ 2 n3 (by rw [n1, ez]) et.symm (fun _ => by rw [n2, ez]) (fun h => by rw [et] at h; cases h) jJ
      | false =>
        have d' : ¬ isDi (f (ta f n p)) = true := by rw [d]; decide
        have ez : tz f n p = ta f n p + 1 := by unfold tz; rw [if_pos a, if_neg l', if_neg d']
        have ad : jn (ta f n p) + (1 : Int32) = jn (ta f n p + 1) := jn_add _ 1
        have g3 : ∀ k j, ¬ (k = 76 ∧ (j = 22 ∨ j = 26)) → iq_upI M 76 22 (jn (ta f n p + 1)) k j = M k j := fun k j hk => by
          by_cases e : k = 76
          · subst e; rw [up_ni (by omega)]
          · rw [up_nk e]
        rw [if_pos (by decide), ad, ir_let]
        have i9 : ∀ c : Nat, c < 256 → (jn (f (ta f n p)) = Int32.ofNat c) = (f (ta f n p) = c) := fun c hc => jn_inj (by omega) (by omega)
        cases s : isSg (f (ta f n p)) with
        | true =>
          have et : tt f n p = 3 := by unfold tt; rw [if_pos a, if_neg l', if_neg d', if_pos s]
          have f3 : ∃ I' J', zM_goes_323 (iq_upI M 76 22 (jn (ta f n p + 1))) (iq_upJ J 76 28 0) = some (I', J') ∧ ML I' J' f n p ∧ jgo I I' ∧ (∀ k j, ¬ k = 76 → J' k j = J k j) := by
            unfold zM_goes_323
            rw [ir_let, ir_let]
            exact fin _ _ 3 g3 (by rw [up_eq, ez]) et.symm (fun h => by rw [et] at h; cases h) (fun h => by rw [et] at h; cases h) jJ
          have hm := of_decide_eq_true s
          simp only [List.mem_cons, List.not_mem_nil, or_false] at hm
          split
          · exact f3
          · split
            · exact f3
            · split
              · exact f3
              · split
                · exact f3
                · split
                  · exact f3
                  · split
                    · exact f3
                    · split
                      · exact f3
                      · split
                        · exact f3
                        · split
                          · rename_i c1 c2 c3 c4 c5 c6 c7 c8 c9
                            exfalso
                            rcases hm with h | h | h | h | h | h | h | h | h
                            · exact c1 (by rw [h]; rfl)
                            · exact c2 (by rw [h]; rfl)
                            · exact c3 (by rw [h]; rfl)
                            · exact c4 (by rw [h]; rfl)
                            · exact c5 (by rw [h]; rfl)
                            · exact c6 (by rw [h]; rfl)
                            · exact c7 (by rw [h]; rfl)
                            · exact c8 (by rw [h]; rfl)
                            · exact c9 (by rw [h]; rfl)
                          · exact f3
        | false =>
          have et : tt f n p = 4 := by unfold tt; rw [if_pos a, if_neg l', if_neg d', if_neg (by rw [s]; decide)]
          have hm := of_decide_eq_false s
          simp only [List.mem_cons, List.not_mem_nil, or_false, not_or] at hm
          obtain ⟨c1, c2, c3, c4, c5, c6, c7, c8, c9⟩ := hm
          rw [if_neg (by rw [show (59 : Int32) = Int32.ofNat 59 from rfl, i9 59 (by decide)]; exact c1), if_neg (by rw [show (40 : Int32) = Int32.ofNat 40 from rfl, i9 40 (by decide)]; exact c2), if_neg (by rw [show (41 : Int32) = Int32.ofNat 41 from rfl, i9 41 (by decide)]; exact c3), if_neg (by rw [show (43 : Int32) = Int32.ofNat 43 from rfl, i9 43 (by decide)]; exact c4), if_neg (by rw [show (45 : Int32) = Int32.ofNat 45 from rfl, i9 45 (by decide)]; exact c5), if_neg (by rw [show (42 : Int32) = Int32.ofNat 42 from rfl, i9 42 (by decide)]; exact c6), if_neg (by rw [show (47 : Int32) = Int32.ofNat 47 from rfl, i9 47 (by decide)]; exact c7), if_neg (by rw [show (60 : Int32) = Int32.ofNat 60 from rfl, i9 60 (by decide)]; exact c8), if_pos (by rw [show (61 : Int32) = Int32.ofNat 61 from rfl, i9 61 (by decide)]; exact c9), ir_let, ir_let]
          exact fin _ _ 4 g3 (by rw [up_eq, ez]) et.symm (fun h => by rw [et] at h; cases h) (fun h => by rw [et] at h; cases h) jJ
  · have ez : tz f n p = ta f n p := by unfold tz; rw [if_neg a]
    have et : tt f n p = 0 := by unfold tt; rw [if_neg a]
    rw [if_neg (show ¬ jn (ta f n p) < jn n by rw [jn_lt (by omega) (by omega)]; exact a), ir_let, ir_let]
    exact fin M _ 0 (fun _ _ _ => rfl) (by rw [m2, ez]) et.symm (fun h => by rw [et] at h; cases h) (fun h => by rw [et] at h; cases h) jJ
theorem ML_next {I : iq_I} {J : iq_J} {f : Nat → Nat} {n p : Nat} (h : ML I J f n p) : ∃ I' J', zM_goes I J = some (I', J') ∧ ML I' J' f n (tz f n p) ∧ jgo I I' ∧ (∀ k j, ¬ k = 76 → J' k j = J k j) := by
  obtain ⟨h1, h2, h3, h4, -⟩ := h
  exact jm_goes h1 (tz_sp h2).2.1 h3 h4
theorem ML_f {I I' : iq_I} {J J' : iq_J} {f : Nat → Nat} {n p : Nat} (h : ML I J f n p) (h85 : ∀ j, I' 85 j = I 85 j) (h76 : ∀ j, 21 ≤ j → j ≤ 27 → I' 76 j = I 76 j) (hJ : J' 76 28 = J 76 28) : ML I' J' f n p := by
  obtain ⟨h1, h2, h3, h4, h5, h6, h7, h8, h9, h10⟩ := h
  exact ⟨jTx_f h1 h85, h2, by rw [h76 _ (by omega) (by omega), h3], by rw [h76 _ (by omega) (by omega), h4], by rw [h76 _ (by omega) (by omega), h5], by rw [h76 _ (by omega) (by omega), h6], by rw [h76 _ (by omega) (by omega), h7], fun h => by rw [h76 _ (by omega) (by omega), h8 h], by rw [h76 _ (by omega) (by omega), h9], fun h => by rw [hJ, h10 h]⟩
