/-! ===== rules: the reference's loop ===== -/
theorem jm_reckL {v : Nat → Int32} : ∀ (c : List Int32) (p : Nat) (s : List Int32) (I : iq_I) (n : Nat), c.length < n → (∀ j, j < (jencs c).length → I 84 (p + j) = (jencs c).getD j 0) → p + (jencs c).length ≤ 4000 → (∀ y ∈ c, -16 ≤ y) → jdp c s.length = some 1 → s.length ≤ 64 → jSk (I 102) s → (∀ k, k < 7 → I 101 k = v k) → ∃ I', zM_reckons_l4 n (jn s.length, jn p, I) = some I' ∧ (∀ k j, ¬ k = 102 → I' k j = I k j) ∧ jSk (I' 102) (jev v c s) ∧ (jev v c s).length = 1
  | [], p, s, I, n, hn, hp, hl, h16, hd, h64, hs, hv => by
    obtain ⟨n, rfl⟩ : ∃ k, n = k + 1 := ⟨n - 1, by omega⟩
    have hd : s.length = 1 := Option.some.inj hd
    have hl : p + 1 ≤ 4000 := hl
    have i0 : iq_in (jn p) 4000 := by rw [jn_in (by omega)]; omega
    have kp : (jn p).toNatClampNeg = p := jn_clamp (by omega)
    have e0 : I 84 p = 0 := hp 0 (Nat.lt_succ_self 0)
    refine ⟨I, ?_, fun _ _ _ => rfl, hs, hd⟩
    unfold zM_reckons_l4
    refine js_0 ?_
    dsimp only
    unfold zM_reckons_l4_b
    rw [if_pos i0, if_pos (by rw [kp]; exact e0)]
  | c :: t, p, s, I, n, hn, hp, hl, h16, hd, h64, hs, hv => by
    obtain ⟨n, rfl⟩ : ∃ k, n = k + 1 := ⟨n - 1, by omega⟩
    have hn : t.length + 1 < n + 1 := hn
    have h16' : ∀ y ∈ t, -16 ≤ y := fun y hy => h16 y (List.mem_cons_of_mem _ hy)
    have hE : jencs (c :: t) = jenc c ++ jencs t := rfl
    rw [hE] at hp hl
    have kp : p < 4000 → (jn p).toNatClampNeg = p := fun h => jn_clamp (by omega)
    have k102 : ∀ (x : Int32) (i : Nat), ∀ k j, ¬ k = 102 → iq_upI I 102 i x k j = I k j := fun x i k j h => up_nk h
    have ks : ∀ x : Int32, jSk (iq_upI I 102 s.length x 102) (x :: s) := fun x => ⟨up_eq, jSk_cg hs fun j hj => up_ni (by omega)⟩
    have go : ∀ (e : Nat) (s' : List Int32) (I1 : iq_I), (jenc c).length = e → zM_reckons_l4_b (jn s.length) (jn p) I = some (.inl (jn s'.length, jn (p + e), I1)) → (∀ k j, ¬ k = 102 → I1 k j = I k j) → jSk (I1 102) s' → s'.length ≤ 64 → jdp t s'.length = some 1 → ∃ I', zM_reckons_l4 (n + 1) (jn s.length, jn p, I) = some I' ∧ (∀ k j, ¬ k = 102 → I' k j = I k j) ∧ jSk (I' 102) (jev v t s') ∧ (jev v t s').length = 1 := fun e s' I1 he b a k k64 d => by
      rw [List.length_append, he] at hl
      obtain ⟨I', q1, q2, q3, q4⟩ := jm_reckL (v := v) t (p + e) s' I1 n (by omega) (fun j hj => by
        rw [a _ _ (by decide), show p + e + j = p + (e + j) by omega, hp (e + j) (by rw [List.length_append]; omega), List.getD_eq_getElem?_getD, List.getElem?_append_right (by omega), List.getD_eq_getElem?_getD, he, Nat.add_sub_cancel_left]) (by omega) h16' d k64 k (fun k hk => by rw [a _ _ (by decide)]; exact hv k hk)
      refine ⟨I', ?_, fun k j h => (q2 k j h).trans (a k j h), q3, q4⟩
      rw [← q1]
      exact js_1 b
    have go67 : ∀ (x : Int32) (P : Nat), s.length < 64 → zM_reckons_67 (jn s.length) (jn P) (jn s.length) x I = some (.inl (jn (s.length + 1), jn (P + 1), iq_upI I 102 s.length x)) := fun x P h => by
      unfold zM_reckons_67
      rw [if_pos (by rw [jn_in (by omega)]; omega), jn_clamp (by omega), ir_let, show (1 : Int32) = jn 1 from rfl, jn_add, jn_add]
    have hx0 := hp 0
    have hx1 := hp 1
    unfold jdp at hd
    unfold jev
    by_cases c0 : 0 ≤ c
    · have c8 : (-8 : Int32) < c := by
        rw [jci_le] at c0; rw [jci_lt]
        have c0 : (0 : Int) ≤ c.toInt := c0
        show (-8 : Int) < c.toInt
        omega
      rw [if_pos c8] at hd
      rw [if_pos c0]
      have je : jenc c = [1, c] := by unfold jenc; rw [if_pos c0]
      rw [je] at hx0 hx1 hl
      simp only [List.length_append, List.length_cons, List.length_nil] at hl
      have e0 : I 84 p = 1 := hx0 (by simp)
      have e1 : I 84 (p + 1) = c := hx1 (by simp)
      have i0 : iq_in (jn p) 4000 := by rw [jn_in (by omega)]; omega
      have i1 : iq_in (jn (p + 1)) 4000 := by rw [jn_in (by omega)]; omega
      by_cases d : s.length < 64
      · rw [if_pos d] at hd
        refine go 2 (c :: s) (iq_upI I 102 s.length c) (by rw [je]; rfl) ?_ (k102 c s.length) (ks c) (by simp; omega) hd
        unfold zM_reckons_l4_b
        simp only [if_pos i0]
        rw [kp (by omega), e0, if_neg (by decide), if_pos (Eq.refl (1 : Int32))]
        unfold zM_reckons_36
        rw [if_neg (fun h => h rfl), show jn p + (1 : Int32) = jn (p + 1) from jn_add p 1, if_pos i1, jn_clamp (by omega), e1]
        exact go67 c (p + 1) d
      · rw [if_neg d] at hd; cases hd
    · rw [if_neg c0]
      by_cases c8 : -8 < c
      · rw [if_pos c8] at hd
        rw [if_pos c8]
        by_cases d : s.length < 64
        · rw [if_pos d] at hd
          have je : jenc c = [2, -1 - c] := by unfold jenc; rw [if_neg c0, if_pos c8]
          rw [je] at hx0 hx1 hl
          simp only [List.length_append, List.length_cons, List.length_nil] at hl
          obtain ⟨k, hk, ek⟩ := jng7 c8 c0
          rw [ek] at hx0 hx1
          have e0 : I 84 p = 2 := hx0 (by simp)
          have e1 : I 84 (p + 1) = jn k := hx1 (by simp)
          have i0 : iq_in (jn p) 4000 := by rw [jn_in (by omega)]; omega
          have i1 : iq_in (jn (p + 1)) 4000 := by rw [jn_in (by omega)]; omega
          rw [ek, jn_clamp (by omega)]
          refine go 2 (v k :: s) (iq_upI I 102 s.length (v k)) (by rw [je]; rfl) ?_ (k102 (v k) s.length) (ks (v k)) (by simp; omega) hd
          unfold zM_reckons_l4_b
          simp only [if_pos i0]
          rw [kp (by omega), e0, if_neg (by decide), if_neg (by decide), if_neg (by decide)]
          unfold zM_reckons_36
          rw [if_pos (by decide), show jn p + (1 : Int32) = jn (p + 1) from jn_add p 1, if_pos i1, jn_clamp (a := p + 1) (by omega), e1, if_pos (by rw [jn_in (by omega)]; exact hk), jn_clamp (by omega), hv k hk]
          exact go67 (v k) (p + 1) d
        · rw [if_neg d] at hd; cases hd
      · rw [if_neg c8] at hd
        rw [if_neg c8]
        by_cases cn : c = -8
        · rw [if_pos cn] at hd
          rw [if_pos cn]
          have je : jenc c = [3] := by unfold jenc; rw [if_neg c0, if_neg c8, if_pos cn]
          rw [je] at hx0 hl
          simp only [List.length_append, List.length_cons, List.length_nil] at hl
          have e0 : I 84 p = 3 := hx0 (by simp)
          have i0 : iq_in (jn p) 4000 := by rw [jn_in (by omega)]; omega
          cases s with
          | nil => rw [if_neg (by simp)] at hd; cases hd
          | cons a s =>
            rw [if_pos (by simp)] at hd
            dsimp only
            have ls : (a :: s).length = s.length + 1 := rfl
            rw [ls] at h64
            have ia : I 102 s.length = a := hs.1
            refine go 1 (jnot a :: s) (iq_upI I 102 s.length (jnot a)) (by rw [je]; rfl) ?_ (k102 _ _) ⟨up_eq, jSk_cg hs.2 fun j hj => up_ni (by omega)⟩ h64 hd
            have g106 : ∀ x : Int32, zM_reckons_106 (jn (s.length + 1)) (jn (p + 1)) (jn s.length) x I = some (.inl (jn (s.length + 1), jn (p + 1), iq_upI I 102 s.length x)) := fun x => by
              unfold zM_reckons_106
              rw [if_pos (by rw [jn_in (by omega)]; omega), jn_clamp (by omega), ir_let]
            unfold zM_reckons_l4_b
            simp only [if_pos i0]
            rw [kp (by omega), e0, if_neg (by decide), if_neg (by decide), if_pos (by decide), if_neg (by decide), ls, show jn (s.length + 1) - (1 : Int32) = jn s.length from jn_sub (a := s.length + 1) (b := 1) (by omega), if_pos (by rw [jn_in (by omega)]; omega), jn_clamp (a := s.length) (by omega), ia, show jn p + (1 : Int32) = jn (p + 1) from jn_add p 1]
            unfold jnot
            by_cases a0 : a = 0
            · rw [if_neg (fun h => h a0), if_pos a0]
              exact g106 1
            · rw [if_pos a0, if_neg a0]
              exact g106 0
        · rw [if_neg cn] at hd
          rw [if_neg cn]
          obtain ⟨o, je, o0, o1, o2, o3, ow⟩ := jm_works (h16 c (List.mem_cons_self ..)) c8 cn
          rw [je] at hx0 hl
          simp only [List.length_append, List.length_cons, List.length_nil] at hl
          have e0 : I 84 p = o := hx0 (by simp)
          have i0 : iq_in (jn p) 4000 := by rw [jn_in (by omega)]; omega
          cases s with
          | nil => rw [if_neg (by simp)] at hd; cases hd
          | cons b s =>
           cases s with
           | nil => rw [if_neg (by simp)] at hd; cases hd
           | cons a s =>
            rw [if_pos (by simp)] at hd
            dsimp only
            have ls : (b :: a :: s).length = s.length + 2 := rfl
            rw [ls] at h64 hd
            have ib : I 102 (s.length + 1) = b := hs.1
            have ia : I 102 s.length = a := hs.2.1
            have i1 : iq_in (jn s.length) 950 := by rw [jn_in (by omega)]; omega
            have i2 : iq_in (jn (s.length + 1)) 950 := by rw [jn_in (by omega)]; omega
            refine go 1 (jop c a b :: s) (iq_upI I 102 s.length (jop c a b)) (by rw [je]; rfl) ?_ (k102 _ _) ⟨up_eq, jSk_cg hs.2.2 fun j hj => up_ni (by omega)⟩ (by simp; omega) (by rw [show (jop c a b :: s).length = s.length + 2 - 1 from rfl]; exact hd)
            unfold zM_reckons_l4_b
            simp only [if_pos i0]
            rw [kp (by omega), e0, if_neg o0, if_neg o1, if_pos o2, if_pos o3, ls, show jn (s.length + 2) + (-1 : Int32) = jn (s.length + 1) from (jn_pred (by omega)), show (1 : Int32) = jn 1 from rfl, jn_sub (by omega), show s.length + 1 - 1 = s.length by omega, if_pos i1, if_pos i2]
            simp only [if_pos i1]
            rw [jn_clamp (a := s.length) (by omega), jn_clamp (a := s.length + 1) (by omega), ia, ib, ow, Option.bind_some, ir_let, jn_add]
            rfl
