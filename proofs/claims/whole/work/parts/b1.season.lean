/-! ===== season ===== -/
def jnx (s : Int32) : Int32 := s * (1103515245 : Int32) + (12345 : Int32)
def jdr (s : Int32) : Nat := ((s >>> (jn 16 &&& 31)) &&& 32767).toBitVec.toNat
theorem jt_32767 {j : Nat} (h : j < 32) : jt 32767 j = decide (j < 15) := by
  have : ∀ j : Fin 32, jt 32767 j.val = decide (j.val < 15) := by decide
  exact this ⟨j, h⟩
theorem jdr_lt (s : Int32) : jdr s < 32768 := by
  unfold jdr
  generalize (s >>> (jn 16 &&& 31)) = z
  have : (z &&& 32767).toBitVec.toNat = z.toBitVec.toNat &&& 32767 := by
    rw [show (z &&& 32767).toBitVec = z.toBitVec &&& 32767#32 from rfl, BitVec.toNat_and]
    rfl
  rw [this]
  have := Nat.and_le_right (n := z.toBitVec.toNat) (m := 32767)
  omega
theorem jdr_m (s : Int32) : (s >>> ((16 : Int32) &&& 31)) &&& (32767 : Int32) = jn (jdr s) := by
  unfold jdr
  apply Int32.toBitVec.inj
  unfold jn
  simp
theorem jdr_c (s : Int32) : ir_ushr s (16 : Int32) &&& (32767 : Int32) = jn (jdr s) := by
  rw [← jdr_m]
  refine jt_ext fun i hi => ?_
  rw [jt_and, jt_and, jt_32767 hi]
  by_cases h : i < 15
  · rw [show (16 : Int32) = jn 16 from rfl, jt_ushr (by omega), jt_shrj (by omega)]
  · simp [h]
theorem jc_draw {s : Int32} {n : Nat} {I : iq_I} (h0 : 0 < n) (hn : n < 2147483648) : zH_draw s (jn n) I = some (jn (jdr s % n)) := by
  unfold zH_draw
  have := jdr_lt s
  rw [if_pos (by rw [jl0, jn_lt (by omega) hn]; exact h0), if_neg (fun h => by rw [jl0, jn_inj hn (by omega)] at h; omega), jdr_c, jn_rest (by omega) hn]
theorem jm_draw {n : Nat} {I : iq_I} (h0 : 0 < n) (hn : n < 2147483648) : zM_draw (jn n) I = some (jn (jdr (jnx (I 76 67)) % n), iq_upI I 76 67 (jnx (I 76 67))) := by
  unfold zM_draw
  have := jdr_lt (jnx (I 76 67))
  rw [ir_let, if_neg (fun h => by rw [jl0, jn_inj hn (by omega)] at h; omega), up_eq, show (I 76 67) * (1103515245 : Int32) + (12345 : Int32) = jnx (I 76 67) from rfl, jdr_m, jn_rest (by omega) hn]
/-- the word at weight d -/
def pAt (m : jMu) (g : jGa) (v y d i : Nat) : Bool := decide (d < gSu m g v y (i + 1))
def gAt (m : jMu) (g : jGa) (v y d : Nat) : Nat := (gFst (pAt m g v y d) (mW m) 0).getD 0
theorem gSu_mono {m : jMu} {g : jGa} {v y : Nat} : ∀ {n k : Nat}, n ≤ k → gSu m g v y n ≤ gSu m g v y k
  | n, 0, h => by have : n = 0 := by omega
                  subst this; exact Nat.le_refl _
  | n, k + 1, h => by
    by_cases e : n = k + 1
    · subst e; exact Nat.le_refl _
    · have := gSu_mono (m := m) (g := g) (v := v) (y := y) (n := n) (k := k) (by omega)
      unfold gSu
      have e2 : gSu m g v y n ≤ gSu m g v y k + gWt m g v y k := by omega
      cases n with
      | zero => exact Nat.zero_le _
      | succ n => exact e2
theorem gAt_sp {m : jMu} {g : jGa} {v y d : Nat} (hd : d < gSu m g v y (mW m)) : gAt m g v y d < mW m ∧ d < gSu m g v y (gAt m g v y d + 1) ∧ ∀ j, j < gAt m g v y d → gSu m g v y (j + 1) ≤ d := by
  unfold gAt
  rcases gFst_sp (P := pAt m g v y d) (c := mW m) (i := 0) with ⟨h1, h2⟩ | ⟨e, h1, _, h3, h4, h5⟩
  · have w0 : 0 < mW m := by
      apply Classical.byContradiction
      intro hn
      rw [show mW m = 0 by omega] at hd
      exact absurd hd (Nat.not_lt_zero _)
    have := h2 (mW m - 1) (by omega) (by omega)
    unfold pAt at this
    rw [show mW m - 1 + 1 = mW m by omega, decide_eq_true hd] at this
    cases this
  · rw [h1]
    refine ⟨by show e < _; omega, of_decide_eq_true h4, fun j hj => ?_⟩
    have := of_decide_eq_false (h5 j (by omega) hj)
    omega
theorem gAt_w {m : jMu} {g : jGa} {v y d : Nat} (hd : d < gSu m g v y (mW m)) : gSu m g v y (gAt m g v y d) ≤ d ∧ d - gSu m g v y (gAt m g v y d) < gWt m g v y (gAt m g v y d) := by
  obtain ⟨h1, h2, h3⟩ := gAt_sp hd
  have h2' : d < gSu m g v y (gAt m g v y d) + gWt m g v y (gAt m g v y d) := h2
  have le : gSu m g v y (gAt m g v y d) ≤ d := by
    cases e : gAt m g v y d with
    | zero => exact Nat.zero_le _
    | succ n => exact h3 n (by omega)
  omega
theorem gWt_len {m : jMu} {g : jGa} {v y w : Nat} (h : 0 < gWt m g v y w) : (gS g y).length < 40 := by
  unfold gWt at h
  by_cases p : (decide (w < mW m) && pMay m g y (gSt m g y (gB g y) none) w) = true
  · have p2 : pMay m g y (gSt m g y (gB g y) none) w = true := by
      cases q : decide (w < mW m) with
      | false => rw [q] at p; cases p
      | true => rw [q, Bool.true_and] at p; exact p
    unfold pMay at p2
    have fr : gFree m g y (gSt m g y (gB g y) none) w = true := by
      cases h : gFree m g y (gSt m g y (gB g y) none) w with
      | true => rfl
      | false => rw [h] at p2; cases p2
    unfold gFree at fr
    cases h1 : gSt m g y (gB g y) none with
    | none => rw [h1] at fr; cases fr
    | some s =>
      rw [h1] at fr
      dsimp only at fr
      cases h2 : mLd m s w with
      | none => rw [h2] at fr; cases fr
      | some t => rw [h2] at fr; simp at fr; exact fr.2
  · rw [if_neg p] at h; omega
theorem jc_wordAtWeight {I : iq_I} {m : jMu} {g : jGa} (hm : mOk m) {v y d : Nat} (hd : d < gSu m g v y (mW m)) (h : ∀ w, w < 14 → I 71 w = jn (gWt m g v y w)) : zH_wordAtWeight (jn d) I = some (jn (gAt m g v y d)) := by
  have h14 := hm.2.1
  have sl := gSu_1386 hm g v y
  obtain ⟨h1, h2, h3⟩ := gAt_sp hd
  obtain ⟨h4, h5⟩ := gAt_w hd
  have key : zH_wordAtWeight_l4 I ir_F (jn d, jn 0) = some (.inr (jn (gAt m g v y d))) := by
    have st : ∀ i, i < gAt m g v y d → zH_wordAtWeight_l4_b I (jn (d - gSu m g v y i)) (jn i) = some (.inl (jn (d - gSu m g v y (i + 1)), jn (i + 1))) := fun i hi => by
      have q : gSu m g v y i + gWt m g v y i ≤ d := h3 i hi
      have q2 : gSu m g v y (i + 1) = gSu m g v y i + gWt m g v y i := rfl
      have w9 := gWt_le m g v y i
      simp (disch := omega) only [zH_wordAtWeight_l4_b, h, jn_sub, ir_let, jn_lt, jn_le, jn_in, jn_inj, jn_ne_m, jm_ne_n, jm_eq_m, jm_lt, jm_le, jn_lt_m, jn_le_m, jn_add, jn_mul, jn_clamp, jo_some, jn_min, jn_max, ↓jlm, jl0, jl1, jl2, jl3, jl4, jl5, jl6, jl7, jl8, jl9, jl10, jl11, jl12, jl13, jl14, jl15, jl16, jl20, jl24, jl32, jl39, jl40, jl41, jl60, jl61, jl80, jl96, jl97, jl99, jl100, jl122, jl126, jl199, jl200, jl205, jl206, jl255, jl256, jl410, jl700, jl950, jl1000, jl1000000, jl4000, jl8240, jl32767, if_pos, if_neg, ↓reduceIte, Option.bind_some, not_true_eq_false, not_false_eq_true, Nat.not_lt, Nat.not_le]
      rw [q2, show d - gSu m g v y i - gWt m g v y i = d - (gSu m g v y i + gWt m g v y i) by omega]
    have := js_seq (body := fun v => zH_wordAtWeight_l4_b I v.1 v.2) (fun i => (jn (d - gSu m g v y i), jn i)) (gAt m g v y d) (.inr (jn (gAt m g v y d))) (fun i hi => st i hi) (by
      dsimp only
      have w9 := gWt_le m g v y (gAt m g v y d)
      simp (disch := omega) only [zH_wordAtWeight_l4_b, h, ir_let, jn_lt, jn_le, jn_in, jn_inj, jn_ne_m, jm_ne_n, jm_eq_m, jm_lt, jm_le, jn_lt_m, jn_le_m, jn_add, jn_mul, jn_clamp, jo_some, jn_min, jn_max, ↓jlm, jl0, jl1, jl2, jl3, jl4, jl5, jl6, jl7, jl8, jl9, jl10, jl11, jl12, jl13, jl14, jl15, jl16, jl20, jl24, jl32, jl39, jl40, jl41, jl60, jl61, jl80, jl96, jl97, jl99, jl100, jl122, jl126, jl199, jl200, jl205, jl206, jl255, jl256, jl410, jl700, jl950, jl1000, jl1000000, jl4000, jl8240, jl32767, if_pos, if_neg, ↓reduceIte, Option.bind_some, not_true_eq_false, not_false_eq_true, Nat.not_lt, Nat.not_le]) (gAt m g v y d) 0 ir_F (by omega) (by unfold ir_F; omega)
    exact this
  unfold zH_wordAtWeight
  rw [show ((jn d, (0 : Int32)) : Int32 × Int32) = (jn d, jn 0) from rfl, key, Option.bind_some]
  rfl
theorem jm_atL {I : iq_I} {m : jMu} {g : jGa} {x2 x3 x4 x5 : Int32} (hm : mOk m) (hN : jRN I m) (hg : gOk m g) (hR : jRR (I 99) g) {v y d : Nat} (hv : v < mV m) (hy : y < gY g) (hd : d < gSu m g v y (mW m)) :
    ∃ w, zM_season_l140 x2 x3 x4 x5 (jn y) (jn v) (jo (gSt m g y (gB g y) none)) ir_F (jn d, (0 : Int32), I) = some w ∧ w.1 = jn (gAt m g v y d) ∧ jch [101, 102] I w.2 := by
  have h14 := hm.2.1
  have sl := gSu_1386 hm g v y
  obtain ⟨h1, h2, h3⟩ := gAt_sp hd
  obtain ⟨h4, h5⟩ := gAt_w hd
  refine js_inv (fun i r => r.1 = jn (d - gSu m g v y i) ∧ r.2.1 = jn i ∧ jch [101, 102] I r.2.2) (gAt m g v y d) _ ?_ ?_ (gAt m g v y d) 0 (jn d, (0 : Int32), I) ir_F (by omega) ⟨rfl, rfl, jch_rf _ I⟩ (by unfold ir_F; omega)
  · rintro i ⟨x, x2, K⟩ hi ⟨e1, e2, a⟩
    simp only at e1 a e2
    subst e1
    subst e2
    have q : gSu m g v y i + gWt m g v y i ≤ d := h3 i hi
    have q2 : gSu m g v y (i + 1) = gSu m g v y i + gWt m g v y i := rfl
    have w9 := gWt_le m g v y i
    obtain ⟨K1, f1, a1⟩ := jm_weightC5 hm (jRN_ch hN a (by decide)) hg (jRR_cg hR fun j => a 99 j (by decide)) hv hy (show i < mW m by omega)
    obtain ⟨K2, f2, a2⟩ := jm_weightC5 hm (jRN_ch hN (jch_tr a a1) (by decide)) hg (jRR_cg hR fun j => (jch_tr a a1) 99 j (by decide)) hv hy (show i < mW m by omega)
    refine ⟨(jn (d - gSu m g v y (i + 1)), jn (i + 1), K2), ?_, rfl, rfl, jch_tr a (jch_tr a1 a2)⟩
    dsimp only
    unfold zM_season_l140_b
    rw [f1, Option.bind_some]
    dsimp only
    rw [if_neg (by rw [jn_lt (by omega) (by omega)]; omega), f2, Option.bind_some]
    dsimp only
    rw [jn_sub (by omega), show jn i + (1 : Int32) = jn (i + 1) from jn_add i 1, q2, show d - gSu m g v y i - gWt m g v y i = d - (gSu m g v y i + gWt m g v y i) by omega]
  · rintro ⟨x, x2, K⟩ ⟨e1, e2, a⟩
    simp only at e1 a e2
    subst e1
    subst e2
    have w9 := gWt_le m g v y (gAt m g v y d)
    obtain ⟨K1, f1, a1⟩ := jm_weightC5 hm (jRN_ch hN a (by decide)) hg (jRR_cg hR fun j => a 99 j (by decide)) hv hy h1
    refine ⟨(jn (gAt m g v y d), K1), ?_, rfl, jch_tr a a1⟩
    dsimp only
    unfold zM_season_l140_b
    rw [f1, Option.bind_some]
    dsimp only
    rw [if_pos (by rw [jn_lt (by omega) (by omega)]; omega)]
/-- one time of a season: words added, seed, sayings -/
def sY (g : jGa) (s : Int32) : Nat := jdr (jnx s) % gY g
def sV (m : jMu) (s : Int32) : Nat := jdr (jnx (jnx s)) % mV m
def sD (g : jGa) : jGa := gDy g ((gD g + 1) % 7)
def sW (m : jMu) (g : jGa) (s : Int32) : Nat := gAt m g (sV m s) (sY g s) (jdr (jnx (jnx (jnx s))) % gSu m g (sV m s) (sY g s) (mW m))
def sP (m : jMu) (g : jGa) (s : Int32) : jGa := gRp g (sY g s) ((gS g (sY g s)).insertIdx (gS g (sY g s)).length (sW m g s))
def sSt (m : jMu) (t : Nat × Int32 × jGa) : Nat × Int32 × jGa :=
  if gSu m t.2.2 (sV m t.2.1) (sY t.2.2 t.2.1) (mW m) = 0 then (t.1, jnx (jnx t.2.1), sD t.2.2) else (t.1 + 1, jnx (jnx (jnx t.2.1)), sD (sP m t.2.2 t.2.1))
def sIt (m : jMu) (t : Nat × Int32 × jGa) : Nat → Nat × Int32 × jGa
  | 0 => t
  | n + 1 => sSt m (sIt m t n)
def sOk (m : jMu) (g : jGa) (t : Nat × Int32 × jGa) : Prop := gOk m t.2.2 ∧ gY t.2.2 = gY g ∧ gB t.2.2 = gB g
theorem gOk_sD {m : jMu} {g : jGa} (hg : gOk m g) : gOk m (sD g) := gOk_day hg (Nat.mod_lt _ (by decide))
theorem sW_sp {m : jMu} {g : jGa} {s : Int32} (h : ¬ gSu m g (sV m s) (sY g s) (mW m) = 0) : jdr (jnx (jnx (jnx s))) % gSu m g (sV m s) (sY g s) (mW m) < gSu m g (sV m s) (sY g s) (mW m) := Nat.mod_lt _ (by omega)
theorem sW_ok {m : jMu} {g : jGa} {s : Int32} (h : ¬ gSu m g (sV m s) (sY g s) (mW m) = 0) : sW m g s < mW m ∧ (gS g (sY g s)).length < 40 := by
  have q := sW_sp h
  have w := gAt_w q
  exact ⟨(gAt_sp q).1, gWt_len (v := sV m s) (y := sY g s) (w := sW m g s) (Nat.lt_of_le_of_lt (Nat.zero_le _) w.2)⟩
theorem sSt_ok {m : jMu} {g : jGa} (hY : 0 < gY g) {t : Nat × Int32 × jGa} (h : sOk m g t) : sOk m g (sSt m t) := by
  obtain ⟨h1, h2, h3⟩ := h
  unfold sSt
  split
  · exact ⟨gOk_sD h1, h2, h3⟩
  · rename_i q
    have w := sW_ok q
    refine ⟨gOk_sD (gOk_put h1 (Nat.mod_lt _ (by omega)) (Nat.le_refl _) w.2 w.1), h2, h3⟩
theorem sIt_ok {m : jMu} {g : jGa} (hY : 0 < gY g) {t : Nat × Int32 × jGa} (h : sOk m g t) : ∀ n, sOk m g (sIt m t n)
  | 0 => h
  | n + 1 => sSt_ok hY (sIt_ok hY h n)
theorem jag_put {I : iq_I} {a b c L : Nat} : jag I (jPut I 52 58 a b c L) := fun k i hk => jPut_nk (fun e => by subst e; cases hk) (fun e => by subst e; cases hk)
theorem jRG_day {I : iq_I} {g : jGa} (h : jRG I 50 51 52 58 g) {d : Nat} : jRG (iq_upI I 50 1 (jn d)) 50 51 52 58 (gDy g d) :=
  ⟨by rw [up_ni (by decide)]; exact h.1, up_eq, fun s hs => by rw [up_nk (by decide)]; exact h.2.2.1 s hs, fun s hs => by rw [up_nk (by decide)]; exact h.2.2.2.1 s hs, fun s i hs hi => by rw [up_nk (by decide)]; exact h.2.2.2.2 s i hs hi⟩
theorem jc_seasonL {I : iq_I} {m : jMu} {g : jGa} (hm : mOk m) (hU : jRU I m) (hg : gOk m g) (hG : jRG I 50 51 52 58 g) (hY : 0 < gY g) (hV : 0 < mV m) {s : Int32} {n : Nat} (hn : n ≤ 60) :
    ∃ w, zH_playSeason_l31 (jn n) ir_F ((0 : Int32), s, (0 : Int32), I) = some w ∧ w.1 = jn (sIt m (0, s, g) n).1 ∧ jag I w.2 ∧ jRG w.2 50 51 52 58 (sIt m (0, s, g) n).2.2 := by
  have h5 := hg.1
  have h4 := hm.2.2.2.2.2.1
  refine js_inv (fun i r => r.1 = jn (sIt m (0, s, g) i).1 ∧ r.2.1 = (sIt m (0, s, g) i).2.1 ∧ r.2.2.1 = jn i ∧ jag I r.2.2.2 ∧ jRG r.2.2.2 50 51 52 58 (sIt m (0, s, g) i).2.2) n _ ?_ ?_ n 0 ((0 : Int32), s, (0 : Int32), I) ir_F (by omega) ⟨rfl, rfl, rfl, jag_rf I, hG⟩ (by unfold ir_F; omega)
  · rintro i ⟨x4, x5, x6, K⟩ hi ⟨e1, e2, e3, a, hK⟩
    simp only at e1 e2 e3 a hK
    obtain ⟨o1, o2, o3⟩ := sIt_ok (m := m) (g := g) hY (t := (0, s, g)) ⟨hg, rfl, rfl⟩ i
    rw [show sIt m (0, s, g) (i + 1) = sSt m (sIt m (0, s, g) i) from rfl]
    generalize sIt m (0, s, g) i = t at *
    obtain ⟨ta, ts, tg⟩ := t
    simp only at e1 e2 o1 o2 o3 hK
    subst e1
    subst x5
    subst e3
    have hU1 := jRU_ag hU a
    have y1 : sY tg ts < gY tg := Nat.mod_lt _ (by omega)
    have v1 : sV m ts < mV m := Nat.mod_lt _ hV
    have sl := gSu_1386 hm tg (sV m ts) (sY tg ts)
    obtain ⟨K1, f1, a1, w1⟩ := jc_weighC5 hm hU1 o1 hK v1 y1
    have hK1 : jRG K1 50 51 52 58 tg := jRG_ch hK a1 (by decide)
    have d1 : zH_draw (jnx ts) (K 50 0) K = some (jn (sY tg ts)) := by rw [jRG_Y hK, jc_draw (by omega) (by omega)]; rfl
    have d2 : zH_draw (jnx (jnx ts)) (K 8 0) K = some (jn (sV m ts)) := by rw [jRU_V hU1, jc_draw hV (by omega)]; rfl
    have nd : ∀ (K2 : iq_I) (g2 : jGa), gD g2 < 7 → jRG K2 50 51 52 58 g2 → zG_nextDay_50 K2 = some (iq_upI K2 50 1 (jn ((gD g2 + 1) % 7))) := fun K2 g2 hd h => by
      have d7 := jn_d7 ⟨gD g2, hd⟩
      simp only at d7
      unfold zG_nextDay_50
      rw [jRG_D h, d7, ir_let]
    have ad : jn i + (1 : Int32) = jn (i + 1) := jn_add i 1
    dsimp only
    unfold zH_playSeason_l31_b sSt zH_nextSeed
    dsimp only
    rw [if_neg (by rw [jn_le (by omega) (by omega)]; omega), Option.bind_some, show ts * (1103515245 : Int32) + (12345 : Int32) = jnx ts from rfl, d1, Option.bind_some, Option.bind_some, show jnx ts * (1103515245 : Int32) + (12345 : Int32) = jnx (jnx ts) from rfl, d2, Option.bind_some, f1, Option.bind_some]
    dsimp only
    by_cases z : gSu m tg (sV m ts) (sY tg ts) (mW m) = 0
    · rw [if_pos (by rw [jl0, jn_le (by omega) (by omega)]; omega), if_pos z]
      unfold zH_playSeason_132
      rw [nd K1 tg o1.2.2.2.2 hK1, Option.bind_some, ad]
      exact ⟨_, rfl, rfl, rfl, rfl, jag_up (jag_tr a (jag_ch a1 (by decide))) rfl, jRG_day hK1⟩
    · have w := sW_ok z
      have q := sW_sp z
      rw [if_neg (by rw [jl0, jn_le (by omega) (by omega)]; omega), if_neg z, Option.bind_some, show jnx (jnx ts) * (1103515245 : Int32) + (12345 : Int32) = jnx (jnx (jnx ts)) from rfl, jc_draw (by omega) (by omega), Option.bind_some, jc_wordAtWeight hm q w1, Option.bind_some, jc_lengthOf5 o1 hK1 y1, Option.bind_some, show gAt m tg (sV m ts) (sY tg ts) (jdr (jnx (jnx (jnx ts))) % gSu m tg (sV m ts) (sY tg ts) (mW m)) = sW m tg ts from rfl, jc_putIn5 o1 hK1 y1 (Nat.le_refl _) w.2, Option.bind_some]
      unfold zH_playSeason_132
      have hP : jRG (jPut K1 52 58 (sY tg ts) (gS tg (sY tg ts)).length (sW m tg ts) (gS tg (sY tg ts)).length) 50 51 52 58 (sP m tg ts) := jRG_put o1 hK1 (by decide) (by decide) (by decide) (by decide) (by decide) y1 (Nat.le_refl _) w.2
      rw [nd _ (sP m tg ts) o1.2.2.2.2 hP, Option.bind_some, ad, show jn ta + (1 : Int32) = jn (ta + 1) from jn_add ta 1]
      exact ⟨_, rfl, rfl, rfl, rfl, jag_up (jag_tr (jag_tr a (jag_ch a1 (by decide))) jag_put) rfl, jRG_day hP⟩
  · rintro ⟨x4, x5, x6, K⟩ ⟨e1, e2, e3, a, hK⟩
    simp only at e1 e2 e3 a hK
    subst e1
    subst e3
    refine ⟨(jn (sIt m (0, s, g) n).1, K), ?_, rfl, a, hK⟩
    dsimp only
    unfold zH_playSeason_l31_b
    rw [if_pos (by rw [jn_le (by omega) (by omega)]; omega)]
theorem jm_seasonL {I : iq_I} {m : jMu} {g : jGa} {x3 : Int32} (hm : mOk m) (hN : jRN I m) (hB : jRB I g) (hg : gOk m g) (hR : jRR (I 99) g) (hY : 0 < gY g) (hV : 0 < mV m) {n : Nat} (hn : n ≤ 60) :
    ∃ w, zM_season_l58 (jn n) x3 ir_F ((0 : Int32), (0 : Int32), I) = some w ∧ w.1 = jn (sIt m (0, I 76 67, g) n).1 ∧ jag I w.2 ∧ jRR (w.2 99) (sIt m (0, I 76 67, g) n).2.2 ∧ w.2 76 0 = I 76 0 := by
  have h5 := hg.1
  have h4 := hm.2.2.2.2.2.1
  refine js_inv (fun i r => r.1 = jn (sIt m (0, I 76 67, g) i).1 ∧ r.2.1 = jn i ∧ r.2.2 76 67 = (sIt m (0, I 76 67, g) i).2.1 ∧ jag I r.2.2 ∧ jRR (r.2.2 99) (sIt m (0, I 76 67, g) i).2.2 ∧ r.2.2 76 0 = I 76 0) n _ ?_ ?_ n 0 ((0 : Int32), (0 : Int32), I) ir_F (by omega) ⟨rfl, rfl, rfl, jag_rf I, hR, rfl⟩ (by unfold ir_F; omega)
  · rintro i ⟨x4, x5, K⟩ hi ⟨e1, e2, e3, a, hK, z0⟩
    simp only at e1 e2 e3 a hK z0
    obtain ⟨o1, o2, o3⟩ := sIt_ok (m := m) (g := g) hY (t := (0, I 76 67, g)) ⟨hg, rfl, rfl⟩ i
    rw [show sIt m (0, I 76 67, g) (i + 1) = sSt m (sIt m (0, I 76 67, g) i) from rfl]
    generalize sIt m (0, I 76 67, g) i = t at *
    obtain ⟨ta, ts, tg⟩ := t
    simp only at e1 e3 o1 o2 o3 hK
    subst e1
    subst e2
    have hN1 := jRN_ag hN a
    have hB1 : jRB K tg := jRB_g (jRB_ag hB a) o2 (fun s _ => by rw [o3])
    have y1 : sY tg ts < gY tg := Nat.mod_lt _ (by omega)
    have v1 : sV m ts < mV m := Nat.mod_lt _ hV
    have sl := gSu_1386 hm tg (sV m ts) (sY tg ts)
    have s5 : K 76 5 = jn (gY tg) := hB1.1
    have s4 : K 76 4 = jn (mV m) := jRN_V hN1
    have d1 : zM_draw (jn (gY tg)) K = some (jn (sY tg ts), iq_upI K 76 67 (jnx ts)) := by rw [jm_draw (by omega) (by omega), e3]; rfl
    have d2 : zM_draw (jn (mV m)) (iq_upI K 76 67 (jnx ts)) = some (jn (sV m ts), iq_upI (iq_upI K 76 67 (jnx ts)) 76 67 (jnx (jnx ts))) := by rw [jm_draw hV (by omega), up_eq]; rfl
    have aK : jag K (iq_upI (iq_upI K 76 67 (jnx ts)) 76 67 (jnx (jnx ts))) := jag_up (jag_up (jag_rf K) rfl) rfl
    have hRK : jRR ((iq_upI (iq_upI K 76 67 (jnx ts)) 76 67 (jnx (jnx ts))) 99) tg := jRR_cg hK fun j => by rw [up_nk (by decide), up_nk (by decide)]
    obtain ⟨K1, f1, a1⟩ := jm_weightsC5 hm (jRN_ag hN1 aK) (jRB_ag hB1 aK) o1 hRK v1 y1
    have hRK1 : jRR (K1 99) tg := jRR_cg hRK fun j => a1 99 j (by decide)
    have nd : ∀ (K2 : iq_I) (g2 : jGa) (x4 : Int32), gOk m g2 → jRR (K2 99) g2 → ∃ K3, zM_season_210 (jn n) x3 x4 (jn i) K2 = some (.inl (x4, jn (i + 1), K3)) ∧ jRR (K3 99) (sD g2) ∧ (∀ k j, ¬ k = 99 → K3 k j = K2 k j) := fun K2 g2 x4 hg2 h => by
      have d7 := jn_d7 ⟨gD g2, hg2.2.2.2.2⟩
      simp only at d7
      refine ⟨iq_upI K2 99 5 (jn ((gD g2 + 1) % 7)), ?_, jRR_day hg2 h (fun j hj => up_ni hj) up_eq, fun k j hk => up_nk hk⟩
      unfold zM_season_210
      rw [jRR_D h, d7, ir_let, show jn i + (1 : Int32) = jn (i + 1) from jn_add i 1]
    dsimp only
    unfold zM_season_l58_b sSt
    dsimp only
    rw [if_neg (by rw [jn_le (by omega) (by omega)]; omega), s5, if_neg (by rw [jl0, jn_le (by omega) (by omega)]; omega), s4, if_neg (by rw [jl0, jn_le (by omega) (by omega)]; omega), d1, Option.bind_some]
    dsimp only
    rw [up_ni (show ¬ 4 = 67 by decide), s4, d2, Option.bind_some]
    dsimp only
    rw [f1, Option.bind_some]
    dsimp only
    have aK1 : jag I K1 := jag_tr a (jag_tr aK (jag_ch a1 (by decide)))
    have K1s : K1 76 67 = jnx (jnx ts) := by rw [a1 76 67 (by decide), up_eq]
    have K10 : K1 76 0 = I 76 0 := by rw [a1 76 0 (by decide), up_ni (by decide), up_ni (by decide), z0]
    by_cases z : gSu m tg (sV m ts) (sY tg ts) (mW m) = 0
    · rw [if_pos (by rw [jl0, jn_le (by omega) (by omega)]; omega), if_pos z]
      obtain ⟨K3, g1, g2, g3⟩ := nd K1 tg (jn ta) o1 hRK1
      rw [g1]
      refine ⟨_, rfl, rfl, rfl, (g3 _ _ (by decide)).trans K1s, fun k j hk => ?_, g2, (g3 _ _ (by decide)).trans K10⟩
      exact (g3 k j (fun e => by subst e; cases hk)).trans (aK1 k j hk)
    · have w := sW_ok z
      have q := sW_sp z
      have d3 : zM_draw (jn (gSu m tg (sV m ts) (sY tg ts) (mW m))) K1 = some (jn (jdr (jnx (jnx (jnx ts))) % gSu m tg (sV m ts) (sY tg ts) (mW m)), iq_upI K1 76 67 (jnx (jnx (jnx ts)))) := by rw [jm_draw (by omega) (by omega), K1s]
      have aK2 : jag K1 (iq_upI K1 76 67 (jnx (jnx (jnx ts)))) := jag_up (jag_rf K1) rfl
      have hN2 := jRN_ag hN (jag_tr aK1 aK2)
      have hB2 : jRB (iq_upI K1 76 67 (jnx (jnx (jnx ts)))) tg := jRB_g (jRB_ag hB (jag_tr aK1 aK2)) o2 (fun s _ => by rw [o3])
      have hR2 : jRR ((iq_upI K1 76 67 (jnx (jnx (jnx ts)))) 99) tg := jRR_cg hRK1 fun j => up_nk (by decide)
      obtain ⟨⟨w1, K4⟩, g1, g2, a4⟩ := jm_atL (x2 := jn n) (x3 := x3) (x4 := jn ta) (x5 := jn i) hm hN2 o1 hR2 v1 y1 q
      simp only at g2 a4
      subst g2
      have hR4 : jRR (K4 99) tg := jRR_cg hR2 fun j => a4 99 j (by decide)
      obtain ⟨K5, p1, p2, p3⟩ := jm_puts05 (c := sW m tg ts) o1 hR4 y1 (Nat.le_refl _) w.2
      obtain ⟨K6, r1, r2, r3⟩ := nd K5 (sP m tg ts) (jn (ta + 1)) (gOk_put o1 y1 (Nat.le_refl _) w.2 w.1) p3
      rw [if_neg (by rw [jl0, jn_le (by omega) (by omega)]; omega), if_neg z, d3, Option.bind_some]
      dsimp only
      rw [jm_stateNow5 hm hN2 o1 hB2 hR2 y1, Option.bind_some, g1, Option.bind_some]
      dsimp only
      have p1' : zM_puts0_76_99 (jn (sY tg ts)) (jn (gS tg (sY tg ts)).length) (jn (gAt m tg (sV m ts) (sY tg ts) (jdr (jnx (jnx (jnx ts))) % gSu m tg (sV m ts) (sY tg ts) (mW m)))) K4 = some K5 := p1
      rw [if_pos (by rw [jn_in (by omega)]; omega), jn_clamp (by omega), jRR_L hR4 _ y1, p1', Option.bind_some, show jn ta + (1 : Int32) = jn (ta + 1) from jn_add ta 1, r1]
      refine ⟨_, rfl, rfl, rfl, ?_, fun k j hk => ?_, r2, ?_⟩
      · show K6 76 67 = _
        rw [r3 _ _ (by decide), p2 _ _ (by decide), a4 76 67 (by decide), up_eq]
      · show K6 k j = _
        have k99 : ¬ k = 99 := fun e => by subst e; cases hk
        rw [r3 _ _ k99, p2 _ _ k99, jag_ch a4 (by decide) k j hk, aK2 k j hk, aK1 k j hk]
      · show K6 76 0 = _
        rw [r3 _ _ (by decide), p2 _ _ (by decide), a4 76 0 (by decide), up_ni (by decide), K10]
  · rintro ⟨x4, x5, K⟩ ⟨e1, e2, e3, a, hK, z0⟩
    simp only at e1 e2 e3 a hK z0
    subst e1
    subst e2
    refine ⟨(jn (sIt m (0, I 76 67, g) n).1, K), ?_, rfl, a, hK, z0⟩
    dsimp only
    unfold zM_season_l58_b
    rw [if_pos (by rw [jn_le (by omega) (by omega)]; omega)]
theorem jRG_cp {I J : iq_I} {m : jMu} {g : jGa} (hg : gOk m g) (h : jRG I 16 17 18 24 g) (c0 : J 50 0 = I 16 0) (c1 : J 50 1 = I 16 1) (cb : ∀ j, j < 5 → J 51 j = I 17 j) (cl : ∀ j, j < 5 → J 52 j = I 18 j) (cw : ∀ j, j < 200 → J 58 j = I 24 j) : jRG J 50 51 52 58 g := by
  have h5 := hg.1
  refine ⟨by rw [c0, h.1], by rw [c1, h.2.1], fun s hs => by rw [cb s (by omega), h.2.2.1 s hs], fun s hs => by rw [cl s (by omega), h.2.2.2.1 s hs], fun s i hs hi => ?_⟩
  have h40 := hg.2.2.1 s hs
  rw [cw _ (by omega), h.2.2.2.2 s i hs hi]
/-- what a season gives -/
def sEnd (m : jMu) (g : jGa) (s : Int32) (n : Nat) : Nat × Int32 × jGa := if gY g = 0 ∨ mV m = 0 then (0, s, g) else sIt m (0, s, g) n
theorem sEnd_ok {m : jMu} {g : jGa} (hg : gOk m g) (s : Int32) (n : Nat) : sOk m g (sEnd m g s n) := by
  unfold sEnd
  split
  · exact ⟨hg, rfl, rfl⟩
  · exact sIt_ok (g := g) (by omega) ⟨hg, rfl, rfl⟩ n
theorem jc_playSeason {I : iq_I} {m : jMu} {g : jGa} (hm : mOk m) (hU : jRU I m) (hg : gOk m g) (hG : jRG I 16 17 18 24 g) {s : Int32} {n : Nat} (hn : n ≤ 60) :
    ∃ J K, zG_copyFrom_50_16 I = some J ∧ zH_playSeason s (jn n) J = some (jn (sEnd m g s n).1, K) ∧ jag I K ∧ jRG K 50 51 52 58 (sEnd m g s n).2.2 := by
  have h5 := hg.1
  have h4 := hm.2.2.2.2.2.1
  obtain ⟨J, e1, k1, c0, c1, c2, cb, cl, ca0, ca1, ca2, ca3, ca4, cw, cs1, cs2⟩ := jc_cp_50_16 I
  have aJ : jag I J := fun k i hk => k1 k i (by
    apply Classical.byContradiction
    intro hc
    have q : k = 50 ∨ k = 51 ∨ k = 52 ∨ k = 53 ∨ k = 54 ∨ k = 55 ∨ k = 56 ∨ k = 57 ∨ k = 58 ∨ k = 59 ∨ k = 60 := by omega
    rcases q with rfl | rfl | rfl | rfl | rfl | rfl | rfl | rfl | rfl | rfl | rfl <;> cases hk)
  have hJ := jRG_cp hg hG c0 c1 cb cl cw
  have hUJ := jRU_ag hU aJ
  unfold sEnd zH_playSeason
  by_cases y0 : gY g = 0
  · refine ⟨J, J, e1, ?_, aJ, ?_⟩
    · rw [jRG_Y hJ, if_pos (by rw [jl0, jn_le (by omega) (by omega)]; omega), if_pos (Or.inl y0)]; rfl
    · rw [if_pos (Or.inl y0)]; exact hJ
  · by_cases v0 : mV m = 0
    · refine ⟨J, J, e1, ?_, aJ, ?_⟩
      · rw [jRG_Y hJ, if_neg (by rw [jl0, jn_le (by omega) (by omega)]; omega), jRU_V hUJ, if_neg (by rw [jl0, jn_lt (by omega) (by omega)]; omega), if_pos (Or.inr v0)]; rfl
      · rw [if_pos (Or.inr v0)]; exact hJ
    · obtain ⟨⟨w1, K⟩, f1, f2, f3, f4⟩ := jc_seasonL (s := s) hm hUJ hg hJ (by omega) (by omega) hn
      simp only at f2 f3 f4
      subst f2
      refine ⟨J, K, e1, ?_, jag_tr aJ f3, ?_⟩
      · rw [jRG_Y hJ, if_neg (by rw [jl0, jn_le (by omega) (by omega)]; omega), jRU_V hUJ, if_pos (by rw [jl0, jn_lt (by omega) (by omega)]; omega), f1, Option.bind_some, if_neg (by omega)]
      · rw [if_neg (by omega)]; exact f4
theorem jm_playSeason {I : iq_I} {m : jMu} {g : jGa} {x3 : Int32} (hm : mOk m) (hN : jRN I m) (hB : jRB I g) (hg : gOk m g) (hR : jRR (I 98) g) {s : Int32} {n : Nat} (hn : n ≤ 60) :
    ∃ J K, zM_copies_76_98_99 I = some J ∧ zM_season_l58 (jn n) x3 ir_F ((0 : Int32), (0 : Int32), iq_upI J 76 67 s) = some (jn (sEnd m g s n).1, K) ∧ jag I K ∧ jRR (K 99) (sEnd m g s n).2.2 ∧ K 76 0 = I 76 0 := by
  have h5 := hg.1
  have h4 := hm.2.2.2.2.2.1
  obtain ⟨J, e1, k1, k2⟩ := jcp_98_99 I
  have aJ : jag I (iq_upI J 76 67 s) := jag_up (fun k i hk => k1 k i (fun e => by subst e; cases hk)) rfl
  have hJ : jRR ((iq_upI J 76 67 s) 99) g := jRR_cg2 hg hR fun j hj => by rw [up_nk (by decide), k2 j hj]
  have hNJ := jRN_ag hN aJ
  have hBJ := jRB_ag hB aJ
  have z0 : iq_upI J 76 67 s 76 0 = I 76 0 := by rw [up_ni (by decide), k1 _ _ (by decide)]
  unfold sEnd
  by_cases nn : gY g = 0 ∨ mV m = 0
  · refine ⟨J, iq_upI J 76 67 s, e1, ?_, aJ, ?_, z0⟩
    · rw [if_pos nn]
      refine js_0 (n := 19999) ?_
      dsimp only
      unfold zM_season_l58_b
      by_cases n0 : n = 0
      · subst n0; rw [if_pos (by decide)]; rfl
      · rw [if_neg (by rw [jl0, jn_le (by omega) (by omega)]; omega), hBJ.1]
        by_cases y0 : gY g = 0
        · rw [if_pos (by rw [jl0, jn_le (by omega) (by omega)]; omega)]; rfl
        · rw [if_neg (by rw [jl0, jn_le (by omega) (by omega)]; omega), jRN_V hNJ, if_pos (by rw [jl0, jn_le (by omega) (by omega)]; omega)]; rfl
    · rw [if_pos nn]; exact hJ
  · obtain ⟨⟨w1, K⟩, f1, f2, f3, f4, f5⟩ := jm_seasonL (x3 := x3) hm hNJ hBJ hg hJ (by omega) (by omega) hn
    simp only at f2 f3 f4 f5
    rw [up_eq] at f2 f4
    subst f2
    refine ⟨J, K, e1, ?_, jag_tr aJ f3, ?_, f5.trans z0⟩
    · rw [if_neg nn, f1]
    · rw [if_neg nn]; exact f4
theorem jq_season {I : iq_I} (hI : jInv I) (x z e : Int32) (X : iq_X) : ∃ r I1 X1 b I2, zO_season x z e I X = some (r, I1, X1) ∧ zM_season x z e I1 = some (b, I2) ∧ jag I I1 ∧ jag I I2 ∧ jXo X X1 ∧ jAn2 r b (I2 76 0) := by
  obtain ⟨m, g, hm, hU, hN, hB, ⟨hg, hG, hR, -, -⟩, -⟩ := hI
  have h5 := hg.1
  by_cases hz : ∃ n, n ≤ 60 ∧ z = jn n
  · obtain ⟨n, hn, rfl⟩ := hz
    obtain ⟨J, K, e1, e2, a1, hK⟩ := jc_playSeason (s := x) hm hU hg hG hn
    obtain ⟨o1, o2, o3⟩ := sEnd_ok (m := m) hg x n
    have az := jag_tr a1 (jz_ag K)
    obtain ⟨J2, K2, f1, f2, a2, hK2, z2⟩ := jm_playSeason (x3 := e) (s := x) hm (jRN_ag hN az) (jRB_ag hB az) hg (jRR_ag hR az) hn
    have c1 : ¬ jn n < (0 : Int32) := by rw [jl0, jn_lt (by omega) (by omega)]; omega
    have c2 : jn n ≤ (60 : Int32) := by rw [jl60, jn_le (by omega) (by omega)]; omega
    have w1 : zM_within (jn n) 0 60 (jz K) = some 1 := by
      rcases jm_within (I := jz K) (x := jn n) (a := 0) (b := 60) (by omega) (by omega) with ⟨_, _, _, _, h⟩ | ⟨h, _⟩
      · exact h
      · exact absurd ⟨n, Nat.zero_le _, hn, rfl⟩ h
    have r2 := jm_right1 (I := K) (c := 2) (x := 1) rfl
    by_cases he : e = -1
    · subst he
      refine ⟨.inl (jn (sEnd m g x n).1), K, X, jn (sEnd m g x n).1, K2, ?_, ?_, a1, jag_tr az a2, Or.inl rfl, Or.inl ⟨_, rfl, rfl, z2⟩⟩
      · unfold zO_season zO_season_10
        rw [if_pos rfl, if_neg c1, if_pos c2, e1, Option.bind_some, e2, Option.bind_some, if_neg (fun h => h rfl)]
      · unfold zM_season zM_season_18 zM_season_233
        rw [jzE, ir_let, if_pos rfl, w1, Option.bind_some, r2, Option.bind_some, if_pos (show ¬ (1 : Int32) = 0 by decide), f1, Option.bind_some, ir_let, f2, Option.bind_some, if_neg (fun h => h rfl)]
    · by_cases hx : ∃ s, s < gY g ∧ e = jn s
      · obtain ⟨y, hy, rfl⟩ := hx
        have ky : (jn y).toNatClampNeg = y := jn_clamp (by omega)
        refine ⟨.inl (jn (gS (sEnd m g x n).2.2 y).length), K, X, jn (gS (sEnd m g x n).2.2 y).length, K2, ?_, ?_, a1, jag_tr az a2, Or.inl rfl, Or.inl ⟨_, rfl, rfl, z2⟩⟩
        · unfold zO_season zO_season_10
          rw [if_neg he, jc_needSaying1 hg hG hy, Option.bind_some]
          dsimp only [iq_sm]
          rw [if_neg c1, if_pos c2, e1, Option.bind_some, e2, Option.bind_some, if_pos he, if_pos (by rw [jn_in (by omega)]; omega), ky]
          dsimp only
          rw [jRG_L hK y (by omega)]
        · unfold zM_season zM_season_18 zM_season_233
          rw [jzE, ir_let, if_neg he, jm_isSaying1 hg (jRB_ag hB a1) hy, Option.bind_some, if_neg (show ¬ (1 : Int32) = 0 by decide)]
          dsimp only
          rw [w1, Option.bind_some, r2, Option.bind_some, if_pos (show ¬ (1 : Int32) = 0 by decide), f1, Option.bind_some, ir_let, f2, Option.bind_some, if_pos he, if_pos (by rw [jn_in (by omega)]; omega), ky]
          dsimp only
          rw [jRR_L hK2 y (by omega)]
      · refine ⟨.inr 0, I, ir_xx X, 0, jw I 1, ?_, ?_, jag_rf I, jw_ag I 1, Or.inr rfl, Or.inr (Or.inl ⟨rfl, rfl⟩)⟩
        · simp only [zO_season, if_neg he, jc_needSaying0 hg hG hx, ir_let, iq_sm, ir_sm, jzE, j10, Option.bind_some, ↓reduceIte, not_true_eq_false, not_false_eq_true]
        · simp only [zM_season, if_neg he, jm_isSaying0 hg hB hx, ir_let, iq_sm, ir_sm, jzE, j10, Option.bind_some, ↓reduceIte, not_true_eq_false, not_false_eq_true]
  · have w0 : zM_within z 0 60 (jz I) = some 0 := by
      rcases jm_within (I := jz I) (x := z) (a := 0) (b := 60) (by omega) (by omega) with ⟨k, _, h1, h2, _⟩ | ⟨_, h⟩
      · exact absurd ⟨k, h1, h2⟩ hz
      · exact h
    have r0 := jm_right0 (I := I) (c := 2) (x := 0) rfl (show ¬ (2 : Int32) = 0 by decide)
    have m18 : zM_season_18 x z e (jz I) = some (0, jw I 2) := by
      unfold zM_season_18
      rw [w0, Option.bind_some, r0, Option.bind_some, if_neg (fun h => h rfl)]
    have o10 : ∀ Y, zO_season_10 x z e I Y = some (.inr 1, I, ir_xx Y) := fun Y => by
      unfold zO_season_10
      rcases jx_no2 (by omega) hz with q | ⟨q1, q2⟩
      · rw [if_pos q]; rfl
      · rw [if_neg q1, if_neg (by rw [jl60]; exact q2)]; rfl
    by_cases he : e = -1
    · refine ⟨.inr 1, I, ir_xx X, 0, jw I 2, ?_, ?_, jag_rf I, jw_ag I 2, Or.inr rfl, Or.inr (Or.inr ⟨rfl, rfl⟩)⟩
      · unfold zO_season
        rw [if_pos he, o10]
      · unfold zM_season
        rw [jzE, ir_let, if_pos he, m18]
    · by_cases hx : ∃ s, s < gY g ∧ e = jn s
      · obtain ⟨y, hy, rfl⟩ := hx
        refine ⟨.inr 1, I, ir_xx X, 0, jw I 2, ?_, ?_, jag_rf I, jw_ag I 2, Or.inr rfl, Or.inr (Or.inr ⟨rfl, rfl⟩)⟩
        · unfold zO_season
          rw [if_neg he, jc_needSaying1 hg hG hy, Option.bind_some]
          dsimp only [iq_sm]
          rw [o10]
        · unfold zM_season
          rw [jzE, ir_let, if_neg he, jm_isSaying1 hg hB hy, Option.bind_some, if_neg (show ¬ (1 : Int32) = 0 by decide)]
          exact m18
      · refine ⟨.inr 0, I, ir_xx X, 0, jw I 1, ?_, ?_, jag_rf I, jw_ag I 1, Or.inr rfl, Or.inr (Or.inl ⟨rfl, rfl⟩)⟩
        · simp only [zO_season, if_neg he, jc_needSaying0 hg hG hx, ir_let, iq_sm, ir_sm, jzE, j10, Option.bind_some, ↓reduceIte, not_true_eq_false, not_false_eq_true]
        · simp only [zM_season, if_neg he, jm_isSaying0 hg hB hx, ir_let, iq_sm, ir_sm, jzE, j10, Option.bind_some, ↓reduceIte, not_true_eq_false, not_false_eq_true]
