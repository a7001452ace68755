/-! ===== who ===== -/
def jprod (f : Nat → Nat) : Nat → Nat
  | 0 => 1
  | n + 1 => jprod f n * f n
theorem jprod_le {f : Nat → Nat} {B : Nat} (h : ∀ i, f i ≤ B) : ∀ n, jprod f n ≤ B ^ n
  | 0 => by unfold jprod; exact Nat.le_refl _
  | n + 1 => by
    unfold jprod
    rw [Nat.pow_succ]
    exact Nat.mul_le_mul (jprod_le h n) (h n)
theorem jlg_le {a b : Nat} (ha : a < 9223372036854775808) (hb : b < 9223372036854775808) : (lg_cmp (jlg a) (jlg b) ≤ 0) = (a ≤ b) := by
  rw [propext (lg_cmp_le _ _)]
  exact propext (Int64.ofNat_le_iff_le ha hb)
theorem jlg_z {a : Nat} (ha : a < 9223372036854775808) : (lg_cmp (jlg a) (0 : Int64) = 0) = (a = 0) := propext ⟨fun h => by
  have q := (lg_cmp_le (jlg a) (jlg 0)).mp (by rw [show lg_cmp (jlg a) (jlg 0) = 0 from h]; decide)
  have := (Int64.ofNat_le_iff_le ha (by decide)).mp q
  omega, fun h => by subst h; rfl⟩
theorem jsk2 {c : Nat} {P : Nat → Nat → Nat → Prop} (h : ∀ i, i < c → ∃ x y, P i x y) : ∃ f k : Nat → Nat, ∀ i, i < c → P i (f i) (k i) := by
  refine ⟨fun i => if q : i < c then Classical.choose (h i q) else 0, fun i => if q : i < c then Classical.choose (Classical.choose_spec (h i q)) else 0, fun i hi => ?_⟩
  simp only [dif_pos hi]
  exact Classical.choose_spec (Classical.choose_spec (h i hi))
/-- what is seen: c times, saying f i, word k i -/
def jSn (I : iq_I) (m : jMu) (g : jGa) (c : Nat) (f k : Nat → Nat) : Prop := c ≤ 3 ∧ I 16 2 = jn c ∧ I 76 63 = jn c ∧ ∀ i, i < c → f i < gY g ∧ k i < mW m ∧ I 25 i = jn (f i) ∧ I 26 i = jn (k i) ∧ I 108 (2 * i) = jn (f i) ∧ I 108 (2 * i + 1) = jn (k i)
theorem jSn_of {I : iq_I} {m : jMu} {g : jGa} (h : jMn I m g) : ∃ c f k, jSn I m g c f k := by
  obtain ⟨-, -, -, -, ⟨c, p1, p2, p3, p4⟩⟩ := h
  obtain ⟨f, k, q⟩ := jsk2 p4
  exact ⟨c, f, k, p1, p2, p3, q⟩
theorem jSn_ag {I I' : iq_I} {m : jMu} {g : jGa} {c : Nat} {f k : Nat → Nat} (h : jSn I m g c f k) (a : jag I I') : jSn I' m g c f k :=
  ⟨h.1, by rw [a 16 2 rfl, h.2.1], by rw [a 76 63 rfl, h.2.2.1], fun i hi => by rw [a 25 i rfl, a 26 i rfl, a 108 _ rfl, a 108 _ rfl]; exact h.2.2.2 i hi⟩
def wU (m : jMu) (g : jGa) (f k : Nat → Nat) (v : Nat) : Nat → Nat := jprod fun i => gWt m g v (f i) (k i)
def wL (m : jMu) (g : jGa) (f _k : Nat → Nat) (v : Nat) : Nat → Nat := jprod fun i => gSu m g v (f i) (mW m)
def wO (m : jMu) (g : jGa) (f k : Nat → Nat) (v p : Nat) : Nat → Nat := jprod fun i => jPo (gWt m g v (f i) (k i)) (gSu m g v (f i) (mW m)) p
theorem gSu_1386 {m : jMu} (hm : mOk m) (g : jGa) (v y : Nat) : gSu m g v y (mW m) ≤ 1386 := by
  have := gSu_le m g v y (mW m)
  have := hm.2.1
  omega
theorem jpow3 {c : Nat} (hc : c ≤ 3) : 1386 ^ c ≤ 2662500456 := by
  rcases (show c = 0 ∨ c = 1 ∨ c = 2 ∨ c = 3 by omega) with rfl | rfl | rfl | rfl <;> decide
theorem wU_le (m : jMu) (g : jGa) (f k : Nat → Nat) (v : Nat) {c : Nat} (hc : c ≤ 3) : wU m g f k v c ≤ 2662500456 :=
  Nat.le_trans (jprod_le (B := 1386) (fun i => Nat.le_trans (gWt_le m g v (f i) (k i)) (by decide)) c) (jpow3 hc)
theorem wL_le {m : jMu} (hm : mOk m) (g : jGa) (f k : Nat → Nat) (v : Nat) {c : Nat} (hc : c ≤ 3) : wL m g f k v c ≤ 2662500456 :=
  Nat.le_trans (jprod_le (B := 1386) (fun i => gSu_1386 hm g v (f i)) c) (jpow3 hc)
theorem jPo_le {u l p : Nat} (hu : u ≤ l) (hl : l ≤ 1386) (hp : p < 2) : jPo u l p ≤ 1386 := by
  unfold jPo
  split
  · omega
  · refine Nat.le_trans (Nat.div_le_self _ _) ?_
    split <;> omega
theorem wO_le {m : jMu} (hm : mOk m) {g : jGa} {f k : Nat → Nat} (v : Nat) {p : Nat} (hp : p < 2) : ∀ {c : Nat}, (∀ i, i < c → k i < mW m) → c ≤ 3 → wO m g f k v p c ≤ 1386 ^ c
  | 0, _, _ => Nat.le_refl _
  | c + 1, hk, hc => by
    show jprod _ c * _ ≤ _
    rw [Nat.pow_succ]
    exact Nat.mul_le_mul (wO_le hm v hp (fun i hi => hk i (by omega)) (by omega)) (jPo_le (gWt_su (hk c (by omega))) (gSu_1386 hm g v (f c)) hp)
/-- the odds in lowest terms are the odds -/
theorem wO_f {m : jMu} {g : jGa} {f k : Nat → Nat} {v : Nat} : ∀ {c : Nat}, (∀ i, i < c → k i < mW m) →
    (wU m g f k v c = 0 → wO m g f k v 0 c = 0) ∧ (¬ wU m g f k v c = 0 → ∃ G, 0 < G ∧ wU m g f k v c = wO m g f k v 0 c * G ∧ wL m g f k v c = wO m g f k v 1 c * G)
  | 0, _ => ⟨fun h => absurd (show (1 : Nat) = 0 from h) (by decide), fun _ => ⟨1, by decide, rfl, rfl⟩⟩
  | c + 1, hk => by
    have ih := wO_f (m := m) (g := g) (f := f) (k := k) (v := v) (c := c) (fun i hi => hk i (by omega))
    have hul := gWt_su (m := m) (g := g) (v := v) (y := f c) (hk c (by omega))
    show (wU m g f k v c * gWt m g v (f c) (k c) = 0 → wO m g f k v 0 c * jPo (gWt m g v (f c) (k c)) (gSu m g v (f c) (mW m)) 0 = 0) ∧ (¬ wU m g f k v c * gWt m g v (f c) (k c) = 0 → ∃ G, 0 < G ∧ wU m g f k v c * gWt m g v (f c) (k c) = wO m g f k v 0 c * jPo (gWt m g v (f c) (k c)) (gSu m g v (f c) (mW m)) 0 * G ∧ wL m g f k v c * gSu m g v (f c) (mW m) = wO m g f k v 1 c * jPo (gWt m g v (f c) (k c)) (gSu m g v (f c) (mW m)) 1 * G)
    generalize gWt m g v (f c) (k c) = u at *
    generalize gSu m g v (f c) (mW m) = l at *
    by_cases e : u = 0
    · subst e
      refine ⟨fun _ => ?_, fun h => absurd (Nat.mul_zero _) h⟩
      rw [show jPo 0 l 0 = 0 from rfl, Nat.mul_zero]
    · refine ⟨fun h => ?_, fun h => ?_⟩
      · rcases Nat.mul_eq_zero.mp h with h | h
        · rw [ih.1 h, Nat.zero_mul]
        · exact absurd h e
      · have h1 : ¬ wU m g f k v c = 0 := fun h' => h (by rw [h', Nat.zero_mul])
        obtain ⟨G, g0, g1, g2⟩ := ih.2 h1
        have q0 : 0 < Nat.gcd l u := Nat.gcd_pos_of_pos_right _ (by omega)
        have q1 : u / Nat.gcd l u * Nat.gcd l u = u := Nat.div_mul_cancel (Nat.gcd_dvd_right l u)
        have q2 : l / Nat.gcd l u * Nat.gcd l u = l := Nat.div_mul_cancel (Nat.gcd_dvd_left l u)
        have p0 : jPo u l 0 = u / Nat.gcd l u := by unfold jPo; rw [if_neg e, if_pos rfl]
        have p1 : jPo u l 1 = l / Nat.gcd l u := by unfold jPo; rw [if_neg e, if_neg (by decide)]
        refine ⟨G * Nat.gcd l u, Nat.mul_pos g0 q0, ?_, ?_⟩
        · rw [p0, g1]
          conv => lhs; rw [← q1]
          ac_rfl
        · rw [p1, g2]
          conv => lhs; rw [← q2]
          ac_rfl
theorem wO_cmp {m : jMu} {g : jGa} {f k : Nat → Nat} {c a b : Nat} (hk : ∀ i, i < c → k i < mW m) (ha : ¬ wU m g f k a c = 0) (hb : ¬ wU m g f k b c = 0) :
    (wU m g f k a c * wL m g f k b c ≤ wU m g f k b c * wL m g f k a c) = (wO m g f k a 0 c * wO m g f k b 1 c ≤ wO m g f k b 0 c * wO m g f k a 1 c) := by
  obtain ⟨G, g0, g1, g2⟩ := (wO_f hk).2 ha
  obtain ⟨H, h0, h1, h2⟩ := (wO_f hk).2 hb
  rw [g1, g2, h1, h2]
  have e1 : wO m g f k a 0 c * G * (wO m g f k b 1 c * H) = wO m g f k a 0 c * wO m g f k b 1 c * (G * H) := by ac_rfl
  have e2 : wO m g f k b 0 c * H * (wO m g f k a 1 c * G) = wO m g f k b 0 c * wO m g f k a 1 c * (G * H) := by ac_rfl
  rw [e1, e2]
  exact propext ⟨fun h => Nat.le_of_mul_le_mul_right h (Nat.mul_pos g0 h0), fun h => Nat.mul_le_mul_right _ h⟩
theorem jc_multiply {I : iq_I} {J : iq_J} {m : jMu} {g : jGa} (hm : mOk m) (hU : jRU I m) (hg : gOk m g) (hG : jRG I 16 17 18 24 g) {c : Nat} {f k : Nat → Nat} (hS : jSn I m g c f k) {v : Nat} (hv : v < mV m) :
    ∃ I' J', zH_multiplyOdds (jn v) I J = some (jB (decide (¬ wU m g f k v c = 0)), I', J') ∧ jag I I' ∧ J' 69 3 = jlg (wU m g f k v c) ∧ J' 69 4 = jlg (wL m g f k v c) := by
  obtain ⟨hc, s1, s2, s3⟩ := id hS
  have h14 := hm.2.1
  obtain ⟨⟨I1, J1⟩, e, a, u1, u2⟩ : ∃ w, zH_multiplyOdds_l12 (jn v) ir_F ((0 : Int32), I, iq_upJ (iq_upJ J 69 3 1) 69 4 1) = some w ∧ jag I w.1 ∧ w.2 69 3 = jlg (wU m g f k v c) ∧ w.2 69 4 = jlg (wL m g f k v c) := by
    refine js_inv (fun i r => r.1 = jn i ∧ jag I r.2.1 ∧ r.2.2 69 3 = jlg (wU m g f k v i) ∧ r.2.2 69 4 = jlg (wL m g f k v i)) c _ ?_ ?_ c 0 ((0 : Int32), I, iq_upJ (iq_upJ J 69 3 1) 69 4 1) ir_F (by omega) ⟨rfl, jag_rf I, rfl, rfl⟩ (by unfold ir_F; omega)
    · rintro i ⟨x, K, L⟩ hi ⟨h1, a, h2, h3⟩
      simp only at h1 a h2 h3
      subst h1
      obtain ⟨t0, t1, t2, t3⟩ := jSn_ag hS a
      obtain ⟨r1, r2, r3, r4, r5, r6⟩ := t3 i hi
      have hG1 : jRG K 16 17 18 24 g := jRG_ag (fun _ => rfl) (fun _ => rfl) (fun _ => rfl) (fun _ => rfl) hG a
      obtain ⟨K2, e2, a2, w2⟩ := jc_weighC hm (jRU_ag hU a) hg hG1 hv r1
      have i3 : iq_in (jn i) 3 := by rw [jn_in (by omega)]; omega
      have ki : (jn i).toNatClampNeg = i := jn_clamp (by omega)
      have gw := gWt_le m g v (f i) (k i)
      have gs := gSu_1386 hm g v (f i)
      refine ⟨(jn (i + 1), K2, iq_upJ (iq_upJ L 69 3 (jlg (wU m g f k v (i + 1)))) 69 4 (jlg (wL m g f k v (i + 1)))), ?_, rfl, jag_tr a (jag_ch a2 (by decide)), ?_, ?_⟩
      · dsimp only
        unfold zH_multiplyOdds_l12_b
        rw [t1, if_neg (by rw [jn_le (by omega) (by omega)]; omega), if_neg (by rw [jl3, jn_le (by omega) (by omega)]; omega)]
        simp only [if_pos i3, ki]
        rw [r3, e2, Option.bind_some]
        dsimp only
        rw [a2 26 i (by decide), r4, jc_weightOf (by omega), Option.bind_some, w2 _ (by omega), jlg_of (by omega), h2, jlg_mul, ir_let, upJ_ni (by decide), h3, jlg_of (by omega), jlg_mul, ir_let, show jn i + (1 : Int32) = jn (i + 1) from jn_add i 1]
        rfl
      · rfl
      · rfl
    · rintro ⟨x, K, L⟩ ⟨h1, a, h2, h3⟩
      simp only at h1 a h2 h3
      subst h1
      refine ⟨(K, L), ?_, a, h2, h3⟩
      dsimp only
      unfold zH_multiplyOdds_l12_b
      rw [(jSn_ag hS a).2.1, if_pos (by rw [jn_le (by omega) (by omega)]; omega)]
  simp only at a u1 u2
  refine ⟨I1, J1, ?_, a, u1, u2⟩
  unfold zH_multiplyOdds
  rw [ir_let, ir_let, e, Option.bind_some]
  unfold zH_multiplyOdds_77
  dsimp only
  have ub := wU_le m g f k v hc
  have le : (lg_cmp (J1 69 3) (0 : Int64) ≤ 0) = (wU m g f k v c ≤ 0) := by
    rw [u1, show (0 : Int64) = jlg 0 from rfl, jlg_le (by omega) (by omega)]
  by_cases z : wU m g f k v c = 0
  · rw [if_pos (by rw [le]; omega), decide_eq_false (fun h => h z)]; rfl
  · rw [if_neg (by rw [le]; omega), decide_eq_true z]; rfl
theorem jm_allOdds {I : iq_I} {m : jMu} {g : jGa} (hm : mOk m) (hN : jRN I m) (hB : jRB I g) (hg : gOk m g) (hR : jRR (I 98) g) {c : Nat} {f k : Nat → Nat} (hS : jSn I m g c f k) {v p : Nat} (hv : v < mV m) (hp : p < 2) :
    ∃ I', zM_allOdds (jn v) (jn p) I = some (jlg (wO m g f k v p c), I') ∧ jch [101, 102] I I' := by
  obtain ⟨hc, s1, s2, s3⟩ := id hS
  have h14 := hm.2.1
  obtain ⟨⟨y1, I1⟩, e, u1, a⟩ : ∃ w, zM_allOdds_l5 (jn v) (jn p) ir_F ((1 : Int64), (0 : Int32), I) = some w ∧ w.1 = jlg (wO m g f k v p c) ∧ jch [101, 102] I w.2 := by
    refine js_inv (fun i r => r.1 = jlg (wO m g f k v p i) ∧ r.2.1 = jn i ∧ jch [101, 102] I r.2.2) c _ ?_ ?_ c 0 ((1 : Int64), (0 : Int32), I) ir_F (by omega) ⟨rfl, rfl, jch_rf _ I⟩ (by unfold ir_F; omega)
    · rintro i ⟨x, x2, K⟩ hi ⟨h1, h2, a⟩
      simp only at h1 a h2
      subst h1
      subst h2
      obtain ⟨t0, t1, t2, t3⟩ := jSn_ag hS (jag_ch a (by decide))
      obtain ⟨r1, r2, r3, r4, r5, r6⟩ := t3 i hi
      obtain ⟨K2, e2, a2⟩ := jm_oddsOf hm (jRN_ch hN a (by decide)) (jRB_ch hB a (by decide)) hg (jRR_cg hR fun j => a 98 j (by decide)) hv r1 r2 hp
      refine ⟨(jlg (wO m g f k v p (i + 1)), jn (i + 1), K2), ?_, rfl, rfl, jch_tr a a2⟩
      have pl := jPo_le (gWt_su r2) (gSu_1386 hm g v (f i)) hp
      dsimp only
      simp (disch := omega) only [zM_allOdds_l5_b, t2, r5, r6, e2, jlg_of, jlg_mul, ir_let, jn_lt, jn_le, jn_in, jn_inj, jn_ne_m, jm_ne_n, jm_eq_m, jm_lt, jm_le, jn_lt_m, jn_le_m, jn_add, jn_mul, jn_clamp, jo_some, jn_min, jn_max, ↓jlm, jl0, jl1, jl2, jl3, jl4, jl5, jl6, jl7, jl8, jl9, jl10, jl11, jl12, jl13, jl14, jl15, jl16, jl20, jl24, jl32, jl39, jl40, jl41, jl60, jl61, jl80, jl96, jl97, jl99, jl100, jl122, jl126, jl199, jl200, jl205, jl206, jl255, jl256, jl410, jl700, jl950, jl1000, jl1000000, jl4000, jl8240, jl32767, if_pos, if_neg, ↓reduceIte, Option.bind_some, not_true_eq_false, not_false_eq_true, Nat.not_lt, Nat.not_le]
      rfl
    · rintro ⟨x, x2, K⟩ ⟨h1, h2, a⟩
      simp only at h1 a h2
      subst h1
      subst h2
      refine ⟨(jlg (wO m g f k v p c), K), ?_, rfl, a⟩
      dsimp only
      unfold zM_allOdds_l5_b
      rw [(jSn_ag hS (jag_ch a (by decide))).2.2.1, if_pos (by rw [jn_le (by omega) (by omega)]; omega)]
  simp only at u1 a
  subst u1
  refine ⟨I1, ?_, a⟩
  unfold zM_allOdds
  rw [e, Option.bind_some]
/-- the likeliest among the first n -/
def wB (m : jMu) (g : jGa) (f k : Nat → Nat) (c : Nat) : Nat → Option Nat
  | 0 => none
  | n + 1 => if wU m g f k n c = 0 then wB m g f k c n else match wB m g f k c n with
    | none => some n
    | some b => if wU m g f k n c * wL m g f k b c ≤ wU m g f k b c * wL m g f k n c then some b else some n
theorem wB_lt {m : jMu} {g : jGa} {f k : Nat → Nat} {c : Nat} : ∀ {n b : Nat}, wB m g f k c n = some b → b < n ∧ ¬ wU m g f k b c = 0
  | 0, b, h => by cases h
  | n + 1, b, h => by
    unfold wB at h
    by_cases e : wU m g f k n c = 0
    · rw [if_pos e] at h
      have := wB_lt h
      exact ⟨by omega, this.2⟩
    · rw [if_neg e] at h
      cases q : wB m g f k c n with
      | none => rw [q] at h; cases h; exact ⟨by omega, e⟩
      | some b' =>
        rw [q] at h
        dsimp only at h
        have w := wB_lt q
        split at h
        · cases h; exact ⟨by omega, w.2⟩
        · cases h; exact ⟨by omega, e⟩
def pCan (m : jMu) (g : jGa) (f k : Nat → Nat) (c v : Nat) : Bool := decide (¬ wU m g f k v c = 0)
theorem jc_whoCan {I : iq_I} {J : iq_J} {m : jMu} {g : jGa} (hm : mOk m) (hU : jRU I m) (hg : gOk m g) (hG : jRG I 16 17 18 24 g) {c : Nat} {f k : Nat → Nat} (hS : jSn I m g c f k) :
    ∃ I' J', zH_whoCan I J = some (jb (mV m) (pCan m g f k c), I', J') ∧ jag I I' := by
  have h4 := hm.2.2.2.2.2.1
  obtain ⟨⟨x, I1, J1⟩, e, u1, a⟩ : ∃ w, zH_whoCan_l4 ir_F ((0 : Int32), (0 : Int32), I, J) = some w ∧ w.1 = jb (mV m) (pCan m g f k c) ∧ jag I w.2.1 := by
    refine js_inv (fun i r => r.1 = jb i (pCan m g f k c) ∧ r.2.1 = jn i ∧ jag I r.2.2.1) (mV m) _ ?_ ?_ (mV m) 0 ((0 : Int32), (0 : Int32), I, J) ir_F (by omega) ⟨rfl, rfl, jag_rf I⟩ (by unfold ir_F; omega)
    · rintro i ⟨x, x2, K, L⟩ hi ⟨h1, h2, a⟩
      simp only at h1 a h2
      subst h1
      subst h2
      have hG1 : jRG K 16 17 18 24 g := jRG_ag (fun _ => rfl) (fun _ => rfl) (fun _ => rfl) (fun _ => rfl) hG a
      obtain ⟨K2, L2, e2, a2, -, -⟩ := jc_multiply (J := L) hm (jRU_ag hU a) hg hG1 (jSn_ag hS a) hi
      refine ⟨(jb (i + 1) (pCan m g f k c), jn (i + 1), K2, L2), ?_, rfl, rfl, jag_tr a a2⟩
      dsimp only
      unfold zH_whoCan_l4_b
      rw [jRU_V (jRU_ag hU a), if_neg (by rw [jn_le (by omega) (by omega)]; omega), e2, Option.bind_some, show jn i + (1 : Int32) = jn (i + 1) from jn_add i 1]
      dsimp only
      cases q : pCan m g f k c i with
      | false =>
        rw [show decide (¬ wU m g f k i c = 0) = false from q, if_pos (show jB false = 0 from rfl), jbS0 q]
      | true =>
        rw [show decide (¬ wU m g f k i c = 0) = true from q, if_neg (by decide), ← jbS1 q]; rfl
    · rintro ⟨x, x2, K, L⟩ ⟨h1, h2, a⟩
      simp only at h1 a h2
      subst h1
      subst h2
      refine ⟨(jb (mV m) (pCan m g f k c), K, L), ?_, rfl, a⟩
      dsimp only
      unfold zH_whoCan_l4_b
      rw [jRU_V (jRU_ag hU a), if_pos (by rw [jn_le (by omega) (by omega)]; omega)]
  simp only at u1 a
  subst u1
  exact ⟨I1, J1, by unfold zH_whoCan; rw [e, Option.bind_some], a⟩
def oU (m : jMu) (g : jGa) (f k : Nat → Nat) (c : Nat) : Option Nat → Nat
  | none => 0
  | some b => wU m g f k b c
def oL (m : jMu) (g : jGa) (f k : Nat → Nat) (c : Nat) : Option Nat → Nat
  | none => 1
  | some b => wL m g f k b c
theorem jc_likeliest {I : iq_I} {J : iq_J} {m : jMu} {g : jGa} (hm : mOk m) (hU : jRU I m) (hg : gOk m g) (hG : jRG I 16 17 18 24 g) {c : Nat} {f k : Nat → Nat} (hS : jSn I m g c f k) :
    ∃ I' J', zH_likeliest I J = some (jo (wB m g f k c (mV m)), I', J') ∧ jag I I' := by
  have h4 := hm.2.2.2.2.2.1
  have hc := hS.1
  obtain ⟨⟨x, I1, J1⟩, e, u1, a⟩ : ∃ w, zH_likeliest_l10 ir_F ((-1 : Int32), (0 : Int64), (1 : Int64), (0 : Int32), I, J) = some w ∧ w.1 = jo (wB m g f k c (mV m)) ∧ jag I w.2.1 := by
    refine js_inv (fun i r => r.1 = jo (wB m g f k c i) ∧ r.2.1 = jlg (oU m g f k c (wB m g f k c i)) ∧ r.2.2.1 = jlg (oL m g f k c (wB m g f k c i)) ∧ r.2.2.2.1 = jn i ∧ jag I r.2.2.2.2.1) (mV m) _ ?_ ?_ (mV m) 0 ((-1 : Int32), (0 : Int64), (1 : Int64), (0 : Int32), I, J) ir_F (by omega) ⟨rfl, rfl, rfl, rfl, jag_rf I⟩ (by unfold ir_F; omega)
    · rintro i ⟨x, y, y2, x2, K, L⟩ hi ⟨h1, h2, h3, h5, a⟩
      simp only at h1 a h2 h3 h5
      subst h1
      subst h2
      subst h3
      subst h5
      have hG1 : jRG K 16 17 18 24 g := jRG_ag (fun _ => rfl) (fun _ => rfl) (fun _ => rfl) (fun _ => rfl) hG a
      obtain ⟨K2, L2, e2, a2, l3, l4⟩ := jc_multiply (J := L) hm (jRU_ag hU a) hg hG1 (jSn_ag hS a) hi
      refine ⟨(jo (wB m g f k c (i + 1)), jlg (oU m g f k c (wB m g f k c (i + 1))), jlg (oL m g f k c (wB m g f k c (i + 1))), jn (i + 1), K2, L2), ?_, rfl, rfl, rfl, rfl, jag_tr a a2⟩
      dsimp only
      unfold zH_likeliest_l10_b
      rw [jRU_V (jRU_ag hU a), if_neg (by rw [jn_le (by omega) (by omega)]; omega), e2, Option.bind_some, show jn i + (1 : Int32) = jn (i + 1) from jn_add i 1]
      dsimp only
      by_cases z : wU m g f k i c = 0
      · rw [decide_eq_false (fun h => h z), if_pos (show jB false = 0 from rfl), show wB m g f k c (i + 1) = wB m g f k c i by (conv => lhs; unfold wB); rw [if_pos z]]
      · rw [decide_eq_true z, if_neg (by decide)]
        have ui := wU_le m g f k i hc
        have li := wL_le hm g f k i hc
        have ub : oU m g f k c (wB m g f k c i) ≤ 2662500456 := by
          cases wB m g f k c i with
          | none => exact Nat.zero_le _
          | some b => exact wU_le m g f k b hc
        have lb : oL m g f k c (wB m g f k c i) ≤ 2662500456 := by
          cases wB m g f k c i with
          | none => show (1 : Nat) ≤ 2662500456; omega
          | some b => exact wL_le hm g f k b hc
        have b1 : wU m g f k i c * oL m g f k c (wB m g f k c i) < 9223372036854775808 := Nat.lt_of_le_of_lt (Nat.mul_le_mul ui lb) (by decide)
        have b2 : oU m g f k c (wB m g f k c i) * wL m g f k i c < 9223372036854775808 := Nat.lt_of_le_of_lt (Nat.mul_le_mul ub li) (by decide)
        have le : (lg_cmp (L2 69 3 * jlg (oL m g f k c (wB m g f k c i))) (jlg (oU m g f k c (wB m g f k c i)) * L2 69 4) ≤ 0) = (wU m g f k i c * oL m g f k c (wB m g f k c i) ≤ oU m g f k c (wB m g f k c i) * wL m g f k i c) := by
          rw [l3, l4, jlg_mul, jlg_mul, jlg_le b1 b2]
        have uw : wB m g f k c (i + 1) = match wB m g f k c i with
            | none => some i
            | some b => if wU m g f k i c * wL m g f k b c ≤ wU m g f k b c * wL m g f k i c then some b else some i := by
          conv => lhs; unfold wB
          rw [if_neg z]
        rw [uw]
        cases q : wB m g f k c i with
        | none =>
          rw [q] at le
          rw [if_neg (by rw [le]; show ¬ wU m g f k i c * 1 ≤ 0 * wL m g f k i c; omega), l3, l4]
          rfl
        | some b =>
          rw [q] at le
          by_cases w : wU m g f k i c * wL m g f k b c ≤ wU m g f k b c * wL m g f k i c
          · rw [if_pos (by rw [le]; exact w)]
            dsimp only
            rw [if_pos w]
          · rw [if_neg (by rw [le]; exact w), l3, l4]
            dsimp only
            rw [if_neg w]
            rfl
    · rintro ⟨x, y, y2, x2, K, L⟩ ⟨h1, h2, h3, h5, a⟩
      simp only at h1 a h2 h3 h5
      subst h1
      subst h5
      refine ⟨(jo (wB m g f k c (mV m)), K, L), ?_, rfl, a⟩
      dsimp only
      unfold zH_likeliest_l10_b
      rw [jRU_V (jRU_ag hU a), if_pos (by rw [jn_le (by omega) (by omega)]; omega)]
  simp only at u1 a
  subst u1
  exact ⟨I1, J1, by unfold zH_likeliest; rw [e, Option.bind_some], a⟩
theorem jm_whoL {I : iq_I} {m : jMu} {g : jGa} {x1 : Int32} (hm : mOk m) (hN : jRN I m) (hB : jRB I g) (hg : gOk m g) (hR : jRR (I 98) g) {c : Nat} {f k : Nat → Nat} (hS : jSn I m g c f k) :
    ∃ w, zM_who_l23 x1 ir_F ((0 : Int32), (-1 : Int32), (0 : Int32), I) = some w ∧ w.1 = jb (mV m) (pCan m g f k c) ∧ w.2.1 = jo (wB m g f k c (mV m)) ∧ jch [101, 102] I w.2.2 := by
  have h4 := hm.2.2.2.2.2.1
  have hc := hS.1
  have hk : ∀ i, i < c → k i < mW m := fun i hi => (hS.2.2.2 i hi).2.1
  have T : ∀ {K : iq_I}, jch [101, 102] I K → jRN K m ∧ jRB K g ∧ jRR (K 98) g ∧ jSn K m g c f k := fun {K} a => ⟨jRN_ch hN a (by decide), jRB_ch hB a (by decide), jRR_cg hR (fun j => a 98 j (by decide)), jSn_ag hS (jag_ch a (by decide))⟩
  refine js_inv (fun i r => r.1 = jb i (pCan m g f k c) ∧ r.2.1 = jo (wB m g f k c i) ∧ r.2.2.1 = jn i ∧ jch [101, 102] I r.2.2.2) (mV m) _ ?_ ?_ (mV m) 0 ((0 : Int32), (-1 : Int32), (0 : Int32), I) ir_F (by omega) ⟨rfl, rfl, rfl, jch_rf _ I⟩ (by unfold ir_F; omega)
  · rintro i ⟨x, y, x2, K⟩ hi ⟨h1, h2, h3, a⟩
    simp only at h1 a h2 h3
    subst h1
    subst h2
    subst h3
    obtain ⟨n1, n2, n3, n4⟩ := T a
    obtain ⟨K1, e1, a1⟩ := jm_allOdds (p := 0) hm n1 n2 hg n3 n4 hi (by decide)
    have b0 := wO_le (p := 0) hm (g := g) (f := f) (k := k) i (by decide) hk hc
    have b1 := wO_le (p := 1) hm (g := g) (f := f) (k := k) i (by decide) hk hc
    have p3 := jpow3 hc
    have e1 : zM_allOdds (jn i) (0 : Int32) K = some (jlg (wO m g f k i 0 c), K1) := e1
    have fz := wO_f (m := m) (g := g) (f := f) (k := k) (v := i) hk
    have zz : (wO m g f k i 0 c = 0) = (wU m g f k i c = 0) := propext ⟨fun h => by
      apply Classical.byContradiction
      intro hn
      obtain ⟨G, g0, g1, g2⟩ := fz.2 hn
      exact hn (by rw [g1, h, Nat.zero_mul]), fz.1⟩
    dsimp only
    unfold zM_who_l23_b
    rw [jRN_V n1, if_neg (by rw [jn_le (by omega) (by omega)]; omega), e1, Option.bind_some, show jn i + (1 : Int32) = jn (i + 1) from jn_add i 1]
    dsimp only
    have cz : (¬ lg_cmp (jlg (wO m g f k i 0 c)) (0 : Int64) = 0) = ¬ wU m g f k i c = 0 := by rw [jlg_z (by omega), zz]
    by_cases z : wU m g f k i c = 0
    · refine ⟨(jb (i + 1) (pCan m g f k c), jo (wB m g f k c (i + 1)), jn (i + 1), K1), ?_, rfl, rfl, rfl, jch_tr a a1⟩
      rw [if_neg (by rw [cz]; exact fun h => h z), jbS0 (show pCan m g f k c i = false from decide_eq_false (fun h => h z)), show wB m g f k c (i + 1) = wB m g f k c i by (conv => lhs; unfold wB); rw [if_pos z]]
    · rw [if_pos (by rw [cz]; exact z)]
      have bs : jb i (pCan m g f k c) ||| ((1 : Int32) <<< (jn i &&& 31)) = jb (i + 1) (pCan m g f k c) := jbS1 (show pCan m g f k c i = true from decide_eq_true z)
      have uw : wB m g f k c (i + 1) = match wB m g f k c i with
          | none => some i
          | some b => if wU m g f k i c * wL m g f k b c ≤ wU m g f k b c * wL m g f k i c then some b else some i := by
        conv => lhs; unfold wB
        rw [if_neg z]
      rw [bs]
      cases q : wB m g f k c i with
      | none =>
        refine ⟨(jb (i + 1) (pCan m g f k c), jo (wB m g f k c (i + 1)), jn (i + 1), K1), ?_, rfl, rfl, rfl, jch_tr a a1⟩
        rw [if_pos (show jo none = -1 from rfl), uw, q]
        rfl
      | some b =>
        have wb := wB_lt q
        obtain ⟨n1, n2, n3, n4⟩ := T (jch_tr a a1)
        obtain ⟨K2, e2, a2⟩ := jm_allOdds (p := 0) hm n1 n2 hg n3 n4 hi (by decide)
        obtain ⟨n1, n2, n3, n4⟩ := T (jch_tr a (jch_tr a1 a2))
        obtain ⟨K3, e3, a3⟩ := jm_allOdds (p := 1) hm n1 n2 hg n3 n4 (show b < mV m by omega) (by decide)
        obtain ⟨n1, n2, n3, n4⟩ := T (jch_tr a (jch_tr a1 (jch_tr a2 a3)))
        obtain ⟨K4, e4, a4⟩ := jm_allOdds (p := 0) hm n1 n2 hg n3 n4 (show b < mV m by omega) (by decide)
        obtain ⟨n1, n2, n3, n4⟩ := T (jch_tr a (jch_tr a1 (jch_tr a2 (jch_tr a3 a4))))
        obtain ⟨K5, e5, a5⟩ := jm_allOdds (p := 1) hm n1 n2 hg n3 n4 hi (by decide)
        have e2 : zM_allOdds (jn i) (0 : Int32) K1 = _ := e2
        have e3 : zM_allOdds (jn b) (1 : Int32) K2 = _ := e3
        have e4 : zM_allOdds (jn b) (0 : Int32) K3 = _ := e4
        have e5 : zM_allOdds (jn i) (1 : Int32) K4 = _ := e5
        have d0 := wO_le (p := 0) hm (g := g) (f := f) (k := k) b (by decide) hk hc
        have d1 := wO_le (p := 1) hm (g := g) (f := f) (k := k) b (by decide) hk hc
        have m1 : wO m g f k i 0 c * wO m g f k b 1 c < 9223372036854775808 := Nat.lt_of_le_of_lt (Nat.mul_le_mul (Nat.le_trans b0 p3) (Nat.le_trans d1 p3)) (by decide)
        have m2 : wO m g f k b 0 c * wO m g f k i 1 c < 9223372036854775808 := Nat.lt_of_le_of_lt (Nat.mul_le_mul (Nat.le_trans d0 p3) (Nat.le_trans b1 p3)) (by decide)
        refine ⟨(jb (i + 1) (pCan m g f k c), jo (wB m g f k c (i + 1)), jn (i + 1), K5), ?_, rfl, rfl, rfl, jch_tr a (jch_tr a1 (jch_tr a2 (jch_tr a3 (jch_tr a4 a5))))⟩
        rw [jo_some, if_neg (jn_ne (by omega) (by decide)), e2, Option.bind_some]
        dsimp only
        rw [e3, Option.bind_some]
        dsimp only
        rw [e4, Option.bind_some]
        dsimp only
        rw [e5, Option.bind_some]
        dsimp only
        rw [uw, q]
        dsimp only
        have le : (lg_cmp (jlg (wO m g f k i 0 c) * jlg (wO m g f k b 1 c)) (jlg (wO m g f k b 0 c) * jlg (wO m g f k i 1 c)) ≤ 0) = (wU m g f k i c * wL m g f k b c ≤ wU m g f k b c * wL m g f k i c) := by
          rw [jlg_mul, jlg_mul, jlg_le m1 m2, wO_cmp hk z wb.2]
        by_cases w : wU m g f k i c * wL m g f k b c ≤ wU m g f k b c * wL m g f k i c
        · rw [if_pos (by rw [le]; exact w), if_pos w, jo_some]
        · rw [if_neg (by rw [le]; exact w), if_neg w, jo_some]
  · rintro ⟨x, y, x2, K⟩ ⟨h1, h2, h3, a⟩
    simp only at h1 a h2 h3
    subst h1
    subst h2
    subst h3
    refine ⟨(jb (mV m) (pCan m g f k c), jo (wB m g f k c (mV m)), K), ?_, rfl, rfl, a⟩
    dsimp only
    unfold zM_who_l23_b
    rw [jRN_V (T a).1, if_pos (by rw [jn_le (by omega) (by omega)]; omega)]
theorem jq_who {I : iq_I} (hI : jInv I) (x : Int32) (J : iq_J) (X : iq_X) : ∃ r I1 J1 X1 b I2, zO_who x I J X = some (r, I1, J1, X1) ∧ zM_who x I1 = some (b, I2) ∧ jag I I1 ∧ jag I I2 ∧ jXo X X1 ∧ jAns r b (I2 76 0) := by
  obtain ⟨m, g, hm, hU, hN, hB, hM, -⟩ := jInv_iff.mp hI
  obtain ⟨hg, hG, hR, -⟩ := id hM
  obtain ⟨c, f, k, hS⟩ := jSn_of hM
  by_cases hx : ∃ k, k < 2 ∧ x = jn k
  · obtain ⟨p, hp, rfl⟩ := hx
    have c1 := jc_oneOfTwo1 (I := I) hp X
    rcases (show p = 0 ∨ p = 1 by omega) with rfl | rfl
    · obtain ⟨I1, J1, e1, a1⟩ := jc_whoCan (J := J) hm hU hg hG hS
      have az := jag_tr a1 (jz_ag I1)
      have k1 := jm_isWhat1 (I := I1) (k := 0) (n := 1) (by omega) (by omega)
      rw [jn1] at k1
      obtain ⟨⟨w1, w2, w3⟩, f1, f2, f3, f4⟩ := jm_whoL (x1 := 0) hm (jRN_ag hN az) (jRB_ag hB az) hg (jRR_ag hR az) (jSn_ag hS az)
      simp only at f2 f3 f4
      subst f2
      simp only [jn0] at c1 k1 ⊢
      refine ⟨.inl (jb (mV m) (pCan m g f k c)), I1, J1, X, jb (mV m) (pCan m g f k c), w3, ?_, ?_, a1, jag_tr az (jag_ch f4 (by decide)), Or.inl rfl, Or.inl ⟨_, rfl, rfl, by rw [f4 76 0 (by decide)]; rfl⟩⟩
      · simp only [zO_who, c1, e1, ir_let, iq_sm, ir_sm, jzE, j10, Option.bind_some, ↓reduceIte, not_true_eq_false, not_false_eq_true]
      · simp only [zM_who, k1, f1, ir_let, iq_sm, ir_sm, jzE, j10, Option.bind_some, ↓reduceIte, not_true_eq_false, not_false_eq_true]
    · obtain ⟨I1, J1, e1, a1⟩ := jc_likeliest (J := J) hm hU hg hG hS
      have az := jag_tr a1 (jz_ag I1)
      have k1 := jm_isWhat1 (I := I1) (k := 1) (n := 1) (by omega) (by omega)
      rw [jn1] at k1
      obtain ⟨⟨w1, w2, w3⟩, f1, f2, f3, f4⟩ := jm_whoL (x1 := 1) hm (jRN_ag hN az) (jRB_ag hB az) hg (jRR_ag hR az) (jSn_ag hS az)
      simp only at f2 f3 f4
      subst f3
      simp only [jn1] at c1 k1 ⊢
      refine ⟨.inl (jo (wB m g f k c (mV m))), I1, J1, X, jo (wB m g f k c (mV m)), w3, ?_, ?_, a1, jag_tr az (jag_ch f4 (by decide)), Or.inl rfl, Or.inl ⟨_, rfl, rfl, by rw [f4 76 0 (by decide)]; rfl⟩⟩
      · simp only [zO_who, c1, e1, ir_let, iq_sm, ir_sm, jzE, j10, Option.bind_some, ↓reduceIte, not_true_eq_false, not_false_eq_true]
      · simp only [zM_who, k1, f1, ir_let, iq_sm, ir_sm, jzE, j10, Option.bind_some, ↓reduceIte, not_true_eq_false, not_false_eq_true]
  · have k1 := jm_isWhat0 (I := I) (x := x) (n := 1) (by omega) (fun ⟨k, h1, h2⟩ => hx ⟨k, by omega, h2⟩)
    rw [jn1] at k1
    refine ⟨.inr 0, I, J, ir_xx X, 0, jw I 1, ?_, ?_, jag_rf I, jw_ag I 1, Or.inr rfl, Or.inr ⟨rfl, rfl⟩⟩
    · simp only [zO_who, jc_oneOfTwo0 hx, ir_let, iq_sm, ir_sm, jzE, j10, Option.bind_some, ↓reduceIte, not_true_eq_false, not_false_eq_true]
    · simp only [zM_who, k1, ir_let, iq_sm, ir_sm, jzE, j10, Option.bind_some, ↓reduceIte, not_true_eq_false, not_false_eq_true]
