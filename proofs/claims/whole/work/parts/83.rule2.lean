/-! ===== rules: both loops ===== -/
theorem jc_giveL {r : Nat} {v : Nat → Int32} (hr : r < 5) : ∀ (c : List Int32) (p : Nat) (s : List Int32) (I : iq_I) (n : Nat), c.length < n → (∀ j, j < c.length → I 9 (p + j) = c.getD j 0) → I 11 r = jn (p + c.length) → p + c.length ≤ 700 → (∀ y ∈ c, -16 ≤ y) → jdp c s.length = some 1 → s.length ≤ 64 → jSk (I 12) s → (∀ k, k < 7 → I 70 k = v k) → ∃ I', zE_give_l25 (jn r) n (jn s.length, jn p, I) = some (jn 1, I') ∧ (∀ k j, ¬ k = 12 → I' k j = I k j) ∧ jSk (I' 12) (jev v c s) ∧ (jev v c s).length = 1
  | [], p, s, I, n, hn, hp, h11, hl, h16, hd, h64, hs, hv => by
    obtain ⟨n, rfl⟩ : ∃ k, n = k + 1 := ⟨n - 1, by omega⟩
    have hd : s.length = 1 := Option.some.inj hd
    have hr5 : iq_in (jn r) 5 := by rw [jn_in (by omega)]; exact hr
    have kr : (jn r).toNatClampNeg = r := jn_clamp (by omega)
    refine ⟨I, ?_, fun _ _ _ => rfl, hs, hd⟩
    unfold zE_give_l25
    rw [show jn 1 = jn s.length by rw [hd]]
    refine js_0 ?_
    dsimp only
    unfold zE_give_l25_b
    rw [if_pos hr5, kr, h11, if_pos (by rw [jn_le (by simp at hl ⊢; omega) (by omega)]; simp)]
  | c :: t, p, s, I, n, hn, hp, h11, hl, h16, hd, h64, hs, hv => by
    obtain ⟨n, rfl⟩ : ∃ k, n = k + 1 := ⟨n - 1, by omega⟩
    have hll : (c :: t).length = t.length + 1 := rfl
    rw [hll] at hn h11 hl hp
    have hr5 : iq_in (jn r) 5 := by rw [jn_in (by omega)]; exact hr
    have kr : (jn r).toNatClampNeg = r := jn_clamp (by omega)
    have kp : (jn p).toNatClampNeg = p := jn_clamp (by omega)
    have hp7 : iq_in (jn p) 700 := by rw [jn_in (by omega)]; omega
    have e1 : ¬ jn (p + (t.length + 1)) ≤ jn p := by rw [jn_le (by omega) (by omega)]; omega
    have e2 : ¬ (700 : Int32) ≤ jn p := by rw [jl700, jn_le (by omega) (by omega)]; omega
    have e3 : I 9 p = c := by have := hp 0 (by omega); simpa using this
    have hp' : ∀ j, j < t.length → I 9 (p + 1 + j) = t.getD j 0 := fun j hj => by
      have := hp (j + 1) (by omega)
      rw [show p + 1 + j = p + (j + 1) by omega, this]; rfl
    have h16' : ∀ y ∈ t, -16 ≤ y := fun y hy => h16 y (List.mem_cons_of_mem _ hy)
    have go : ∀ (s' : List Int32) (I1 : iq_I), zE_give_l25_b (jn r) (jn s.length) (jn p) I = some (.inl (jn s'.length, jn (p + 1), I1)) → (∀ k j, ¬ k = 12 → I1 k j = I k j) → jSk (I1 12) s' → s'.length ≤ 64 → jdp t s'.length = some 1 → ∃ I', zE_give_l25 (jn r) (n + 1) (jn s.length, jn p, I) = some (jn 1, I') ∧ (∀ k j, ¬ k = 12 → I' k j = I k j) ∧ jSk (I' 12) (jev v t s') ∧ (jev v t s').length = 1 := fun s' I1 b a k k64 d => by
      obtain ⟨I', q1, q2, q3, q4⟩ := jc_giveL (v := v) hr t (p + 1) s' I1 n (by omega) (fun j hj => by rw [a _ _ (by decide)]; exact hp' j hj) (by rw [a _ _ (by decide), h11, show p + 1 + t.length = p + (t.length + 1) by omega]) (by omega) h16' d k64 k (fun k hk => by rw [a _ _ (by decide)]; exact hv k hk)
      refine ⟨I', ?_, fun k j h => (q2 k j h).trans (a k j h), q3, q4⟩
      rw [← q1]
      exact js_1 b
    have go92 : ∀ x : Int32, s.length < 64 → zE_give_92 (jn r) (jn s.length) (jn p) (jn s.length) x I = some (.inl (jn (s.length + 1), jn (p + 1), iq_upI I 12 s.length x)) := fun x h => by
      unfold zE_give_92
      rw [if_pos (by rw [jn_in (by omega)]; exact h), jn_clamp (by omega), ir_let, show (1 : Int32) = jn 1 from rfl, jn_add, jn_add]
    have k12 : ∀ (x : Int32) (i : Nat), ∀ k j, ¬ k = 12 → iq_upI I 12 i x k j = I k j := fun x i k j h => up_nk h
    have ks : ∀ x : Int32, jSk (iq_upI I 12 s.length x 12) (x :: s) := fun x => ⟨up_eq, jSk_cg hs fun j hj => up_ni (by omega)⟩
    unfold jdp at hd
    unfold jev
    by_cases c0 : 0 ≤ c
    · have c8 : (-8 : Int32) < c := by
        rw [jci_le] at c0; rw [jci_lt]
        have c0 : (0 : Int) ≤ c.toInt := c0
        show (-8 : Int) < c.toInt
        omega
      rw [if_pos c8] at hd
      rw [if_pos c0]
      by_cases d : s.length < 64
      · rw [if_pos d] at hd
        refine go (c :: s) (iq_upI I 12 s.length c) ?_ (k12 c s.length) (ks c) (by simp; omega) hd
        unfold zE_give_l25_b
        rw [if_pos hr5, kr, h11, if_neg e1, if_neg e2, if_pos hp7, kp, e3, if_neg (Int32.not_le.mpr c8), if_neg (by rw [show (64 : Int32) = jn 64 from rfl, jn_le (by omega) (by omega)]; omega), if_neg (Int32.not_lt.mpr c0)]
        exact go92 c d
      · rw [if_neg d] at hd; cases hd
    · rw [if_neg c0]
      by_cases c8 : -8 < c
      · rw [if_pos c8] at hd
        rw [if_pos c8]
        by_cases d : s.length < 64
        · rw [if_pos d] at hd
          obtain ⟨k, hk, ek⟩ := jng7 c8 c0
          have vl : zE_valueOf c I = some (v k) := by
            unfold zE_valueOf
            rw [ek, if_neg (by rw [jl0, jn_lt (by omega) (by omega)]; omega), if_neg (by rw [jl7, jn_le (by omega) (by omega)]; omega), if_pos (by rw [jn_in (by omega)]; exact hk), jn_clamp (by omega), hv k hk]
          rw [ek, jn_clamp (by omega)]
          refine go (v k :: s) (iq_upI I 12 s.length (v k)) ?_ (k12 (v k) s.length) (ks (v k)) (by simp; omega) hd
          unfold zE_give_l25_b
          rw [if_pos hr5, kr, h11, if_neg e1, if_neg e2, if_pos hp7, kp, e3, if_neg (Int32.not_le.mpr c8), if_neg (by rw [show (64 : Int32) = jn 64 from rfl, jn_le (by omega) (by omega)]; omega), if_pos (Int32.not_le.mp c0), vl, Option.bind_some]
          exact go92 (v k) d
        · rw [if_neg d] at hd; cases hd
      · rw [if_neg c8] at hd
        rw [if_neg c8]
        have cl : c ≤ -8 := Int32.not_lt.mp c8
        by_cases cn : c = -8
        · rw [if_pos cn] at hd
          rw [if_pos cn]
          cases s with
          | nil => rw [if_neg (by simp)] at hd; cases hd
          | cons a s =>
            rw [if_pos (by simp)] at hd
            dsimp only
            have ls : (a :: s).length = s.length + 1 := rfl
            rw [ls] at h64
            have ia : I 12 s.length = a := hs.1
            refine go (jnot a :: s) (iq_upI I 12 s.length (jnot a)) ?_ (k12 _ _) ⟨up_eq, jSk_cg hs.2 fun j hj => up_ni (by omega)⟩ h64 hd
            have g133 : ∀ x : Int32, zE_give_133 (jn r) (jn (s.length + 1)) (jn p) (jn s.length) x I = some (.inl (jn (s.length + 1), jn (p + 1), iq_upI I 12 s.length x)) := fun x => by
              unfold zE_give_133
              rw [if_pos (by rw [jn_in (by omega)]; omega), jn_clamp (by omega), ir_let, show (1 : Int32) = jn 1 from rfl, jn_add]
            unfold zE_give_l25_b
            rw [if_pos hr5, kr, h11, if_neg e1, if_neg e2, if_pos hp7, kp, e3, if_pos cl, if_neg (fun h => h cn), ls, if_neg (by rw [jl0, jn_le (by omega) (by omega)]; omega), show (1 : Int32) = jn 1 from rfl, jn_sub (by omega), show s.length + 1 - 1 = s.length by omega, if_pos (by rw [jn_in (by omega)]; omega), jn_clamp (by omega), ia]
            unfold jnot
            by_cases a0 : a = 0
            · rw [if_neg (fun h => h a0), if_pos a0]
              exact g133 1
            · rw [if_pos a0, if_neg a0]
              exact g133 0
        · rw [if_neg cn] at hd
          rw [if_neg cn]
          match s, hs, hd, h64, go with
          | [], _, hd, _, _ => rw [if_neg (by simp)] at hd; cases hd
          | [a], _, hd, _, _ => rw [if_neg (by simp)] at hd; cases hd
          | b :: a :: s, hs, hd, h64, go =>
            rw [if_pos (by simp)] at hd
            dsimp only
            have ls : (b :: a :: s).length = s.length + 2 := rfl
            rw [ls] at h64 hd
            have ib : I 12 (s.length + 1) = b := hs.1
            have ia : I 12 s.length = a := hs.2.1
            have i1 : iq_in (jn s.length) 64 := by rw [jn_in (by omega)]; omega
            have i2 : iq_in (jn (s.length + 1)) 64 := by rw [jn_in (by omega)]; omega
            refine go (jop c a b :: s) (iq_upI I 12 s.length (jop c a b)) ?_ (k12 _ _) ⟨up_eq, jSk_cg hs.2.2 fun j hj => up_ni (by omega)⟩ (by simp; omega) (by rw [show (jop c a b :: s).length = s.length + 2 - 1 from rfl]; exact hd)
            unfold zE_give_l25_b
            rw [if_pos hr5, kr, h11, if_neg e1, if_neg e2, if_pos hp7, kp, e3, if_pos cl, if_pos cn, ls, if_neg (by rw [jl1, jn_le (by omega) (by omega)]; omega), show jn (s.length + 2) + (-1 : Int32) = jn (s.length + 1) from (jn_pred (by omega)), show (1 : Int32) = jn 1 from rfl, jn_sub (by omega), show s.length + 1 - 1 = s.length by omega, if_pos i1, if_pos i2]
            simp only [if_pos i1]
            rw [jn_clamp (a := s.length) (by omega), jn_clamp (a := s.length + 1) (by omega), ia, ib, jc_join, Option.bind_some, ir_let, jn_add]
            rfl
